/-! Orders.gather, Orders.find -/
/-- the first i messages of a set are gathered -/
def GA (M : Int32) (v : PV) (W i : Nat) (me : IF) (pi : Nat → IF) : Prop :=
  (∀ k, k < (memL M i).length → me (k + 1) = nI ((memL M i).getD k 0) ∧ pi (k + 1) = pF W v.2.2.1 ((memL M i).getD k 0) 0) ∧ pi 0 = v.1.2.1
section FIND2
variable {h : HP} {a : Nat} {O : OV}
theorem GA_up {M : Int32} {v : PV} {W i : Nat} {me : IF} {pi : Nat → IF} (H : GA M v W i me pi) (hs : memL M (i + 1) = memL M i ++ [i]) : GA M v W (i + 1) (upd me ((memL M i).length + 1) (nI i)) (va_up pi ((memL M i).length + 1) (pF W v.2.2.1 i 0)) := by
  refine ⟨fun k hk => ?_, ?_⟩
  · rw [hs] at hk ⊢
    by_cases e : k = (memL M i).length
    · subst e
      rw [getD_app2]
      exact ⟨pk_us, if_pos rfl⟩
    · rw [List.length_append] at hk
      have hk2 : k < (memL M i).length := by
        have : k < (memL M i).length + 1 := hk
        omega
      rw [getD_app hk2]
      exact ⟨(pk_un (by omega)).trans (H.1 k hk2).1, (show va_up pi _ _ (k + 1) = pi (k + 1) from if_neg (by omega)).trans (H.1 k hk2).2⟩
  · exact (show va_up pi _ _ 0 = pi 0 from if_neg (by omega)).trans H.2
theorem tX4_gather (l : Launch) (E : EV) (n : Nat) (H : HOrd h a O) {M : Int32} {p : Nat} {v : PV} (Hp : HState h p v) (hpa : p + 15 ≤ a ∨ a + 49 ≤ p) {W : Nat} (hW : v.1.1 = nI W) (hW40 : W ≤ 40) (hS : WS v.2.2.1) (hM : ∀ i, i < 8 → ¬ M &&& mk i = 0 → i < v.2.2.1.2.2.2.2) (hlen : (memL M 8).length ≤ 5) {b : Nat} (hb : HPaint h b) (hba : b + 3 ≤ a ∨ a + 49 ≤ b) : MX4_gather l E n h [.ref a, .ref p, .int M, .ref b] (fun r h' => r = none ∧ ∃ me pi, HOrd h' a (me, pi, O.2.2.1, O.2.2.2.1, (memL M 8).length) ∧ GA M v W 8 me pi ∧ Sm a (a + 49) h h') := by
  have e := H
  have f := Hp
  obtain ⟨b0, bq⟩ := hb
  refine AM.intro mf_X4_gather (by simp [Value.category]) (Nat.le_of_ble_eq_true rfl) (fun X hl hE hnm hX => ?_)
  subst hl
  subst hE
  show AW X _ _ 0 0 0 [some (.ref a), some (.ref p), some (.int M), some (.ref b), none] []
  have loop : ∀ (g i : Nat) (me : IF) (pi : Nat → IF) (hh : HP), i ≤ 8 → 8 - i < g → HOrd hh a (me, pi, O.2.2.1, O.2.2.2.1, (memL M i).length) → GA M v W i me pi → Sm a (a + 49) h hh → AW X n hh 0 0 24 [some (.ref a), some (.ref p), some (.int M), some (.ref b), some (.int (nI i))] [] := by
    intro g
    induction g with
    | zero => intro i me pi hh h1 h2; omega
    | succ g ih =>
      intro i me pi hh h1 h2 e ga sm
      have f := Hp.sm sm (by omega)
      have b0' : hh b = some (cO 5 [.ref (b + 1), .ref (b + 2)]) := (sm.at (by omega)).trans b0
      have hs := memL_succ M i
      obtain ⟨e0, e1, ⟨⟨g2, e2, p2⟩, r2⟩, e3, e4⟩ := id e
      refine aw_iload hX dX4_gather_24 rfl ?_
      refine aw_bipush hX (8) dX4_gather_26 (by decide) ?_
      refine aw_icmp_ge hX 92 dX4_gather_28 (by decide) (fun c_28 => ?_) (fun c_28 => ?_)
      · have hi : i = 8 := lp_out h1 (by decide) c_28
        subst hi
        exact aw_vret hX rfl rfl rfl rfl dX4_gather_92 (by exact ⟨rfl, me, pi, e, ga, sm⟩)
      · have hi : i < 8 := lp_in h1 (by decide) c_28
        have hml := memL_mono M (i + 1) (7 - i)
        rw [show i + 1 + (7 - i) = 8 by omega] at hml
        refine aw_iload_n hX dX4_gather_31 rfl ?_
        refine aw_iconst hX (1) dX4_gather_32 (by decide) ?_
        refine aw_iload hX dX4_gather_33 rfl ?_
        refine aw_ishl hX dX4_gather_35 ?_
        refine aw_iand hX dX4_gather_36 ?_
        refine aw_if_eq hX 86 dX4_gather_37 (by decide) (fun c_37 => ?_) (fun c_37 => ?_)
        · rw [if_pos (show M &&& mk i = 0 from c_37)] at hs
          refine aw_iinc hX (nI (i + 1)) dX4_gather_86 rfl (nI_1 i) ?_
          refine aw_goto hX 24 dX4_gather_89 (by decide) ?_
          exact ih (i + 1) me pi hh hi (by omega) (by rw [hs]; exact e) (by unfold GA; rw [hs]; exact ga) sm
        · rw [if_neg (show ¬ M &&& mk i = 0 from c_37)] at hs
          have hl5 : (memL M i).length < 5 := by (rw [hs, List.length_append] at hml; have h1x : [i].length = 1 := rfl; omega)
          have hiK := hM i hi c_37
          refine aw_aload_n hX dX4_gather_40 rfl ?_
          refine gt_X4_26 hX dX4_gather_41 (by assumption) (by exact rfl) ?_
          refine aw_iconst hX (5) dX4_gather_44 (by decide) ?_
          refine aw_icmp_ge hX 86 dX4_gather_45 (by decide) (fun c_45 => ?_) (fun c_45 => ?_)
          · exact absurd c_45 (nI_ge (b := 5) hl5 (by decide))
          · refine aw_aload_n hX dX4_gather_48 rfl ?_
            refine aw_dup hX dX4_gather_49 rfl ?_
            refine gt_X4_26 hX dX4_gather_50 (by assumption) (by exact rfl) ?_
            refine aw_iconst hX (1) dX4_gather_53 (by decide) ?_
            refine aw_iadd hX dX4_gather_54 ?_
            rw [nI_1]
            refine pt_X4_26 hX dX4_gather_55 (by assumption) (Nat.le_of_ble_eq_true rfl) ?_
            dsimp only [List.set_cons_zero, List.set_cons_succ]
            have e := e.a0 ((memL M i).length + 1)
            have sm := sm.set (a := a) (c := cO 4 [.ref (a + 1), .ref (a + 2), .ref (a + 9), .ref (a + 16), .int (nI ((memL M i).length + 1))]) (by omega) (by omega)
            obtain ⟨e0, e1, ⟨⟨g2, e2, p2⟩, r2⟩, e3, e4⟩ := id e
            refine aw_aload_n hX dX4_gather_58 rfl ?_
            refine gt_X4_11 hX dX4_gather_59 (by assumption) (by exact rfl) ?_
            refine aw_aload_n hX dX4_gather_62 rfl ?_
            refine gt_X4_26 hX dX4_gather_63 (by assumption) (by exact rfl) ?_
            refine aw_iload hX dX4_gather_66 rfl ?_
            refine aw_iastN hX ((memL M i).length + 1) (by assumption) rfl (by omega) (by first | decide | assumption) dX4_gather_68 ?_
            have e := e.a1 (upd me ((memL M i).length + 1) (nI i))
            have sm := sm.set (a := a + 1) (c := cI 6 (upd me ((memL M i).length + 1) (nI i))) (by omega) (by omega)
            obtain ⟨e0, e1, ⟨⟨g2, e2, p2⟩, r2⟩, e3, e4⟩ := id e
            have f := Hp.sm sm (by omega)
            have b0' := (sm.at (q := b) (by omega)).trans b0
            have r2i := r2 ((memL M i).length + 1) (by omega)
            refine aw_aload_n hX dX4_gather_69 rfl ?_
            refine aw_aload_n hX dX4_gather_70 rfl ?_
            refine aw_iload hX dX4_gather_71 rfl ?_
            refine aw_iconst hX (0) dX4_gather_73 (by decide) ?_
            refine aw_aload_n hX dX4_gather_74 rfl ?_
            refine gt_X4_17 hX dX4_gather_75 (by assumption) (by exact rfl) ?_
            refine aw_aload_n hX dX4_gather_78 rfl ?_
            refine gt_X4_26 hX dX4_gather_79 (by assumption) (by exact rfl) ?_
            refine aw_aaldN hX ((memL M i).length + 1) (by assumption) (by decide) rfl (by omega) (by decide) (p2 _ (by omega)) dX4_gather_82 ?_
            refine aw_callV0 hX RX4 rfl (tX5_draw _ _ _ f hW hW40 hS hiK (s := 0) (by decide) (by decide) b r2i (by omega)) rfl mf_X5_draw mi_X5_draw ms_X5_draw kl_X4_68 (by assumption) rfl rfl (by decide) (Nat.le_of_ble_eq_true rfl) dX4_gather_83 (by decide) (fun v_83 h_83 p_83 => ?_)
            obtain ⟨rfl, rfl⟩ := p_83
            have e := e.pic (i := (memL M i).length + 1) (by omega) (pF W v.2.2.1 i 0)
            have sm := sm.set (a := a + 3 + ((memL M i).length + 1)) (c := cI 40 (pF W v.2.2.1 i 0)) (by omega) (by omega)
            refine aw_iinc hX (nI (i + 1)) dX4_gather_86 rfl (nI_1 i) ?_
            refine aw_goto hX 24 dX4_gather_89 (by decide) ?_
            exact ih (i + 1) _ _ _ hi (by omega) (by rw [hs, List.length_append]; exact e) (GA_up ga hs) sm
  have e0 := e.1
  have s0 := f.1
  refine aw_aload_n hX dX4_gather_0 rfl ?_
  refine aw_iconst hX (0) dX4_gather_1 (by decide) ?_
  refine pt_X4_26 hX dX4_gather_2 (by assumption) (Nat.le_of_ble_eq_true rfl) ?_
  dsimp only [List.set_cons_zero, List.set_cons_succ]
  have e := e.a0 0
  have f := f.off (a := a) (cO 4 [.ref (a + 1), .ref (a + 2), .ref (a + 9), .ref (a + 16), .int (nI 0)]) (by omega)
  obtain ⟨e0, e1, ⟨⟨g2, e2, p2⟩, r2⟩, e3, e4⟩ := id e
  have s0 := f.1
  have d0 := f.2.1.1
  have d1 := f.2.1.2.1
  have r20 := r2 0 (by decide)
  refine aw_aload_n hX dX4_gather_5 rfl ?_
  refine gt_X4_34 hX dX4_gather_6 (by assumption) (by exact rfl) ?_
  refine gt_X4_59 hX dX4_gather_9 (by assumption) (by exact rfl) ?_
  refine aw_aload_n hX dX4_gather_12 rfl ?_
  refine gt_X4_17 hX dX4_gather_13 (by assumption) (by exact rfl) ?_
  refine aw_iconst hX (0) dX4_gather_16 (by decide) ?_
  refine aw_aaldN hX (0) (by assumption) (by decide) rfl (by decide) (by decide) (p2 _ (by decide)) dX4_gather_17 ?_
  refine aw_callSN0 hX RX4 "FlipBoard" rfl (tX9_copy _ _ _ d1 r20 (by decide)) rfl mf_X9_copy mt_X9_copy kl_X4_64 rfl (by decide) (Nat.le_of_ble_eq_true rfl) dX4_gather_18 (by decide) (fun v_18 h_18 p_18 => ?_)
  obtain ⟨rfl, rfl⟩ := p_18
  have e := e.pic (i := 0) (by decide) v.1.2.1
  refine aw_iconst hX (0) dX4_gather_21 (by decide) ?_
  refine aw_istore hX dX4_gather_22 (Nat.le_of_ble_eq_true rfl) ?_
  exact loop 9 0 _ _ _ (by decide) (by decide) e ⟨fun k hk => absurd hk (Nat.not_lt_zero _), if_pos rfl⟩ ((Sm.rf.set (Nat.le_refl _) (by omega)).set (by omega) (by omega))
theorem tX4_find (l : Launch) (E : EV) (n : Nat) (H : HOrd h a O) {M : Int32} {p : Nat} {v : PV} (Hp : HState h p v) (hpa : p + 15 ≤ a ∨ a + 49 ≤ p) {W : Nat} (hW : v.1.1 = nI W) (hW40 : W ≤ 40) (hS : WS v.2.2.1) (hM : ∀ i, i < 8 → ¬ M &&& mk i = 0 → i < v.2.2.1.2.2.2.2) (hlen : (memL M 8).length ≤ 5) {b : Nat} (hb : HPaint h b) (hba : b + 3 ≤ a ∨ a + 49 ≤ b) : MX4_find l E n h [.ref a, .ref p, .int M, .ref b] (fun r h' => r = none ∧ ∃ me pi st, HOrd h' a (me, pi, st, FEt st (memL M 8).length (2 ^ (memL M 8).length - 1) O.2.2.2.1, (memL M 8).length) ∧ GA M v W 8 me pi ∧ (∀ i j, i ≤ (memL M 8).length → j ≤ (memL M 8).length → st i j = dfF v (pi i) (pi j)) ∧ Sm a (a + 49) h h') := by
  have hz : (memL M 8).length < 6 := by omega
  have hp2 := p2_lt hz
  have e0 := H.1
  have s0 := Hp.1
  have hq := hb
  refine AM.intro mf_X4_find (by simp [Value.category]) (Nat.le_of_ble_eq_true rfl) (fun X hl hE hnm hX => ?_)
  subst hl
  subst hE
  show AW X _ _ 0 0 0 [some (.ref a), some (.ref p), some (.int M), some (.ref b), none, none] []
  have outer : ∀ (me : IF) (pi st : Nat → IF), GA M v W 8 me pi → (∀ i j, i ≤ (memL M 8).length → j ≤ (memL M 8).length → st i j = dfF v (pi i) (pi j)) → ∀ (g m : Nat) (hh : HP) (x : Option Value), m ≤ 2 ^ (memL M 8).length - 1 → 2 ^ (memL M 8).length - 1 - m < g → HOrd hh a (me, pi, st, FEt st (memL M 8).length m O.2.2.2.1, (memL M 8).length) → Sm a (a + 49) h hh → AW X n hh 0 0 18 [some (.ref a), some (.ref p), some (.int M), some (.ref b), some (.int (nI (m + 1))), x] [] := by
    intro me pi st ga hst
    generalize (memL M 8).length = z at *
    have inner : ∀ (g m j : Nat) (hh : HP) (_ : ∀ (hh : HP) (x : Option Value), HOrd hh a (me, pi, st, FEt st z (m + 1) O.2.2.2.1, z) → Sm a (a + 49) h hh → AW X n hh 0 0 18 [some (.ref a), some (.ref p), some (.int M), some (.ref b), some (.int (nI (m + 1 + 1))), x] []), m < 2 ^ z - 1 → j ≤ z + 1 → z + 1 - j < g → HOrd hh a (me, pi, st, ipF st z (m + 1) j (FEt st z m O.2.2.2.1), z) → Sm a (a + 49) h hh → AW X n hh 0 0 37 [some (.ref a), some (.ref p), some (.int M), some (.ref b), some (.int (nI (m + 1))), some (.int (nI j))] [] := by
      intro g
      induction g with
      | zero => intro m j hh kk h1 h2 h3; omega
      | succ g ih =>
        intro m j hh kk h1 h2 h3 e sm
        have e0 := e.1
        obtain ⟨⟨g4, e4, q4⟩, r4⟩ := e.2.2.2.2
        have r4m := r4 (m + 1) (by omega)
        have hnb := nbk_le st (ipF st z (m + 1) j (FEt st z m O.2.2.2.1)) j (m + 1) z
        refine aw_iload hX dX4_find_37 rfl ?_
        refine aw_aload_n hX dX4_find_39 rfl ?_
        refine gt_X4_26 hX dX4_find_40 (by assumption) (by exact rfl) ?_
        refine aw_icmp_gt hX 85 dX4_find_43 (by decide) (fun c_43 => ?_) (fun c_43 => ?_)
        · have n_43 : z < j := (nI_ltI (a := z) (b := j) (by omega) (by omega)).mp c_43
          have n_43 : z < j := (nI_ltI (by omega) (by omega)).mp c_43
          have hj : j = z + 1 := by omega
          subst hj
          refine aw_iinc hX (nI (m + 1 + 1)) dX4_find_85 rfl (nI_1 (m + 1)) ?_
          refine aw_goto hX 18 dX4_find_88 (by decide) ?_
          exact kk hh _ e sm
        · have n_43 : ¬ z < j := fun q => c_43 ((nI_ltI (a := z) (b := j) (by omega) (by omega)).mpr q)
          refine aw_iload hX dX4_find_46 rfl ?_
          refine aw_bipush hX (6) dX4_find_48 (by decide) ?_
          refine aw_icmp_ge hX 85 dX4_find_50 (by decide) (fun c_50 => ?_) (fun c_50 => ?_)
          · exact absurd c_50 (nI_ge (a := j) (b := 6) (by omega) (by decide))
          · refine aw_aload_n hX dX4_find_53 rfl ?_
            refine gt_X4_23 hX dX4_find_54 (by assumption) (by exact rfl) ?_
            refine aw_iload hX dX4_find_57 rfl ?_
            refine aw_aaldN hX (m + 1) (by assumption) (by decide) rfl (by omega) (by decide) (q4 _ (by omega)) dX4_find_59 ?_
            refine aw_iload hX dX4_find_60 rfl ?_
            refine aw_aload_n hX dX4_find_62 rfl ?_
            refine aw_iload hX dX4_find_63 rfl ?_
            refine aw_aload_n hX dX4_find_65 rfl ?_
            refine aw_iload hX dX4_find_66 rfl ?_
            refine aw_iload hX dX4_find_68 rfl ?_
            refine aw_callVp hX RX4 rfl (tX4_nextBehind _ _ _ e hz (by omega) (by omega)) rfl mf_X4_nextBehind mi_X4_nextBehind ms_X4_nextBehind kl_X4_48 (by assumption) rfl rfl (by decide) (Nat.le_of_ble_eq_true rfl) dX4_find_70 (by decide) ?_
            refine aw_iload hX dX4_find_73 rfl ?_
            refine aw_callVp hX RX4 rfl (tX4_flipsBy _ _ _ e (by omega) (nx := (nbk st (ipF st z (m + 1) j (FEt st z m O.2.2.2.1)) j (m + 1) z).1) (by omega) (by omega)) rfl mf_X4_flipsBy mi_X4_flipsBy ms_X4_flipsBy kl_X4_52 (by assumption) rfl rfl (by decide) (Nat.le_of_ble_eq_true rfl) dX4_find_75 (by decide) ?_
            refine aw_iastN hX (j) (by assumption) rfl (by omega) (by first | decide | assumption) dX4_find_78 ?_
            have e := e.few (i := m + 1) (by omega) (upd (ipF st z (m + 1) j (FEt st z m O.2.2.2.1) (m + 1)) j (fbF st (ipF st z (m + 1) j (FEt st z m O.2.2.2.1)) j (nbk st (ipF st z (m + 1) j (FEt st z m O.2.2.2.1)) j (m + 1) z).1 (m + 1)))
            have sm := sm.set (a := a + 17 + (m + 1)) (c := cI 6 (upd (ipF st z (m + 1) j (FEt st z m O.2.2.2.1) (m + 1)) j (fbF st (ipF st z (m + 1) j (FEt st z m O.2.2.2.1)) j (nbk st (ipF st z (m + 1) j (FEt st z m O.2.2.2.1)) j (m + 1) z).1 (m + 1)))) (by omega) (by omega)
            refine aw_iinc hX (nI (j + 1)) dX4_find_79 rfl (nI_1 j) ?_
            refine aw_goto hX 37 dX4_find_82 (by decide) ?_
            exact ih m (j + 1) _ kk h1 (by omega) (by omega) e sm
    intro g
    induction g with
    | zero => intro m hh x h1 h2; omega
    | succ g ih =>
      intro m hh x h1 h2 e sm
      have e0 := e.1
      refine aw_iload hX dX4_find_18 rfl ?_
      refine aw_bipush hX (32) dX4_find_20 (by decide) ?_
      refine aw_icmp_ge hX 91 dX4_find_22 (by decide) (fun c_22 => ?_) (fun c_22 => ?_)
      · have n_22 : 32 ≤ m + 1 := (nI_leI (a := 32) (b := m + 1) (by omega) (by omega)).mp c_22
        have hm : m = 2 ^ z - 1 := by omega
        subst hm
        exact aw_vret hX rfl rfl rfl rfl dX4_find_91 (by exact ⟨rfl, me, pi, st, e, ga, hst, sm⟩)
      · have n_22 : ¬ 32 ≤ m + 1 := fun q => c_22 ((nI_leI (a := 32) (b := m + 1) (by omega) (by omega)).mpr q)
        refine aw_iload hX dX4_find_25 rfl ?_
        refine aw_aload_n hX dX4_find_27 rfl ?_
        refine aw_callVp hX RX4 rfl (tX4_wholeSet _ _ _ e hz) rfl mf_X4_wholeSet mi_X4_wholeSet ms_X4_wholeSet kl_X4_44 (by assumption) rfl rfl (by decide) (Nat.le_of_ble_eq_true rfl) dX4_find_28 (by decide) ?_
        refine aw_icmp_gt hX 91 dX4_find_31 (by decide) (fun c_31 => ?_) (fun c_31 => ?_)
        · have n_31 : 2 ^ z - 1 < m + 1 := (nI_ltI (a := 2 ^ z - 1) (b := m + 1) (by omega) (by omega)).mp c_31
          have hm : m = 2 ^ z - 1 := by omega
          subst hm
          exact aw_vret hX rfl rfl rfl rfl dX4_find_91 (by exact ⟨rfl, me, pi, st, e, ga, hst, sm⟩)
        · have n_31 : ¬ 2 ^ z - 1 < m + 1 := fun q => c_31 ((nI_ltI (a := 2 ^ z - 1) (b := m + 1) (by omega) (by omega)).mpr q)
          refine aw_iconst hX (0) dX4_find_34 (by decide) ?_
          refine aw_istore hX dX4_find_35 (Nat.le_of_ble_eq_true rfl) ?_
          exact inner (z + 2) m 0 hh (fun hh x e sm => ih (m + 1) hh x (by omega) (by omega) e sm) (by omega) (by omega) (by omega) e sm
  refine aw_aload_n hX dX4_find_0 rfl ?_
  refine aw_aload_n hX dX4_find_1 rfl ?_
  refine aw_iload_n hX dX4_find_2 rfl ?_
  refine aw_aload_n hX dX4_find_3 rfl ?_
  refine aw_callV0 hX RX4 rfl (tX4_gather _ _ _ H Hp hpa hW hW40 hS hM hlen hq hba) rfl mf_X4_gather mi_X4_gather ms_X4_gather kl_X4_30 (by assumption) rfl rfl (by decide) (Nat.le_of_ble_eq_true rfl) dX4_find_4 (by decide) (fun v_4 h_4 p_4 => ?_)
  obtain ⟨rfl, me, pi, e, ga, sm⟩ := p_4
  have f := Hp.sm sm (by omega)
  have e0 := e.1
  have s0 := f.1
  refine aw_aload_n hX dX4_find_7 rfl ?_
  refine aw_aload_n hX dX4_find_8 rfl ?_
  refine gt_X4_34 hX dX4_find_9 (by assumption) (by exact rfl) ?_
  refine aw_callV0 hX RX4 rfl (tX4_measure (v := v) _ _ _ e hz f.2.1 (by omega)) rfl mf_X4_measure mi_X4_measure ms_X4_measure kl_X4_40 (by assumption) rfl rfl (by decide) (Nat.le_of_ble_eq_true rfl) dX4_find_12 (by decide) (fun v_12 h_12 p_12 => ?_)
  obtain ⟨rfl, st, e, hst, sm2⟩ := p_12
  refine aw_iconst hX (1) dX4_find_15 (by decide) ?_
  refine aw_istore hX dX4_find_16 (Nat.le_of_ble_eq_true rfl) ?_
  exact outer me pi st ga hst (2 ^ (memL M 8).length - 1 + 1) 0 _ _ (by omega) (by omega) e (sm.tr sm2 (Nat.le_refl _) (Nat.le_refl _))
end FIND2
