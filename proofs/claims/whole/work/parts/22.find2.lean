/-! Orders.gather, Orders.find -/
/-- the first i messages of a set are gathered -/
def GA (M : Int32) (v : PV) (W i : Nat) (me : IF) (pi : Nat → IF) : Prop :=
  (∀ k, k < (memL M i).length → me (k + 1) = nI ((memL M i).getD k 0) ∧ pi (k + 1) = pF W v.2.2.1 ((memL M i).getD k 0) 0) ∧ pi 0 = v.1.2.1
section FIND2
variable {h : HP} {a : Nat} {O : OV}
theorem GA_up {M : Int32} {v : PV} {W i : Nat} {me : IF} {pi : Nat → IF} (H : GA M v W i me pi) (hs : memL M (i + 1) = memL M i ++ [i]) : GA M v W (i + 1) (upd me ((memL M i).length + 1) (nI i)) (va_up pi ((memL M i).length + 1) (pF W v.2.2.1 i 0)) := by
  refine ⟨fun k hk => ?_, ?_⟩
  · rw [hs] at hk ⊢
    by_cases e : k = (memL M i).length
    · subst e
      rw [getD_app2]
      exact ⟨pk_us, if_pos rfl⟩
    · rw [List.length_append] at hk
      have hk2 : k < (memL M i).length := by
        have : k < (memL M i).length + 1 := hk
        omega
      rw [getD_app hk2]
      exact ⟨(pk_un (by omega)).trans (H.1 k hk2).1, (show va_up pi _ _ (k + 1) = pi (k + 1) from if_neg (by omega)).trans (H.1 k hk2).2⟩
  · exact (show va_up pi _ _ 0 = pi 0 from if_neg (by omega)).trans H.2
theorem tX4_gather (l : Launch) (E : EV) (n : Nat) (H : HOrd h a O) {M : Int32} {p : Nat} {v : PV} (Hp : HState h p v) (hpa : p + 15 ≤ a ∨ a + 49 ≤ p) {W : Nat} (hW : v.1.1 = nI W) (hW40 : W ≤ 40) (hS : WS v.2.2.1) (hM : ∀ i, i < 8 → ¬ M &&& mk i = 0 → i < v.2.2.1.2.2.2.2) (hlen : (memL M 8).length ≤ 5) {b : Nat} (hb : HPaint h b) (hba : b + 3 ≤ a ∨ a + 49 ≤ b) : MX4_gather l E n h [.ref a, .ref p, .int M, .ref b] (fun r h' => r = none ∧ ∃ me pi, HOrd h' a (me, pi, O.2.2.1, O.2.2.2.1, (memL M 8).length) ∧ GA M v W 8 me pi ∧ Sm a (a + 49) h h') := by
  have e := H
  have f := Hp
  obtain ⟨b0, bq⟩ := hb
  refine AM.intro mf_X4_gather (by simp [Value.category]) (Nat.le_of_ble_eq_true rfl) (fun X hl hE hnm hX => ?_)
  subst hl
  subst hE
  show AW X _ _ 0 0 0 [some (.ref a), some (.ref p), some (.int M), some (.ref b), none] []
  have loop : ∀ (g i : Nat) (me : IF) (pi : Nat → IF) (hh : HP), i ≤ 8 → 8 - i < g → HOrd hh a (me, pi, O.2.2.1, O.2.2.2.1, (memL M i).length) → GA M v W i me pi → Sm a (a + 49) h hh → AW X n hh 0 0 24 [some (.ref a), some (.ref p), some (.int M), some (.ref b), some (.int (nI i))] [] := by
    intro g
    induction g with
    | zero => intro i me pi hh h1 h2; omega
    | succ g ih =>
      intro i me pi hh h1 h2 e ga sm
      have f := Hp.sm sm (by omega)
      have b0' : hh b = some (cO 5 [.ref (b + 1), .ref (b + 2)]) := (sm.at (by omega)).trans b0
      have hs := memL_succ M i
      obtain ⟨e0, e1, ⟨⟨g2, e2, p2⟩, r2⟩, e3, e4⟩ := id e
      refine aw_iload hX dX4_gather_24 rfl ?_
      refine aw_bipush hX (8) dX4_gather_26 (by decide) ?_
      refine aw_icmp_ge hX 92 dX4_gather_28 (by decide) (fun c_28 => ?_) (fun c_28 => ?_)
      · have hi : i = 8 := lp_out h1 (by decide) c_28
        subst hi
        exact aw_vret hX rfl rfl rfl rfl dX4_gather_92 (by exact ⟨rfl, me, pi, e, ga, sm⟩)
      · have hi : i < 8 := lp_in h1 (by decide) c_28
        have hml := memL_mono M (i + 1) (7 - i)
        rw [show i + 1 + (7 - i) = 8 by omega] at hml
        refine aw_iload_n hX dX4_gather_31 rfl ?_
        refine aw_iconst hX (1) dX4_gather_32 (by decide) ?_
        refine aw_iload hX dX4_gather_33 rfl ?_
        refine aw_ishl hX dX4_gather_35 ?_
        refine aw_iand hX dX4_gather_36 ?_
        refine aw_if_eq hX 86 dX4_gather_37 (by decide) (fun c_37 => ?_) (fun c_37 => ?_)
        · rw [if_pos (show M &&& mk i = 0 from c_37)] at hs
          refine aw_iinc hX (nI (i + 1)) dX4_gather_86 rfl (nI_1 i) ?_
          refine aw_goto hX 24 dX4_gather_89 (by decide) ?_
          exact ih (i + 1) me pi hh hi (by omega) (by rw [hs]; exact e) (by unfold GA; rw [hs]; exact ga) sm
        · rw [if_neg (show ¬ M &&& mk i = 0 from c_37)] at hs
          have hl5 : (memL M i).length < 5 := by (rw [hs, List.length_append] at hml; have h1x : [i].length = 1 := rfl; omega)
          have hiK := hM i hi c_37
          refine aw_aload_n hX dX4_gather_40 rfl ?_
          refine gt_X4_26 hX dX4_gather_41 (by assumption) (by exact rfl) ?_
          refine aw_iconst hX (5) dX4_gather_44 (by decide) ?_
          refine aw_icmp_ge hX 86 dX4_gather_45 (by decide) (fun c_45 => ?_) (fun c_45 => ?_)
          · exact absurd c_45 (nI_ge (b := 5) hl5 (by decide))
          · refine aw_aload_n hX dX4_gather_48 rfl ?_
            refine aw_dup hX dX4_gather_49 rfl ?_
            refine gt_X4_26 hX dX4_gather_50 (by assumption) (by exact rfl) ?_
            refine aw_iconst hX (1) dX4_gather_53 (by decide) ?_
            refine aw_iadd hX dX4_gather_54 ?_
            rw [nI_1]
            refine pt_X4_26 hX dX4_gather_55 (by assumption) (Nat.le_of_ble_eq_true rfl) ?_
            dsimp only [List.set_cons_zero, List.set_cons_succ]
            have e := e.a0 ((memL M i).length + 1)
            have sm := sm.set (a := a) (c := cO 4 [.ref (a + 1), .ref (a + 2), .ref (a + 9), .ref (a + 16), .int (nI ((memL M i).length + 1))]) (by omega) (by omega)
            obtain ⟨e0, e1, ⟨⟨g2, e2, p2⟩, r2⟩, e3, e4⟩ := id e
            refine aw_aload_n hX dX4_gather_58 rfl ?_
            refine gt_X4_11 hX dX4_gather_59 (by assumption) (by exact rfl) ?_
            refine aw_aload_n hX dX4_gather_62 rfl ?_
            refine gt_X4_26 hX dX4_gather_63 (by assumption) (by exact rfl) ?_
            refine aw_iload hX dX4_gather_66 rfl ?_
            refine aw_iastN hX ((memL M i).length + 1) (by assumption) rfl (by omega) (by first | decide | assumption) dX4_gather_68 ?_
            have e := e.a1 (upd me ((memL M i).length + 1) (nI i))
            have sm := sm.set (a := a + 1) (c := cI 6 (upd me ((memL M i).length + 1) (nI i))) (by omega) (by omega)
            obtain ⟨e0, e1, ⟨⟨g2, e2, p2⟩, r2⟩, e3, e4⟩ := id e
            have f := Hp.sm sm (by omega)
            have b0' := (sm.at (q := b) (by omega)).trans b0
            have r2i := r2 ((memL M i).length + 1) (by omega)
            refine aw_aload_n hX dX4_gather_69 rfl ?_
            refine aw_aload_n hX dX4_gather_70 rfl ?_
            refine aw_iload hX dX4_gather_71 rfl ?_
            refine aw_iconst hX (0) dX4_gather_73 (by decide) ?_
            refine aw_aload_n hX dX4_gather_74 rfl ?_
            refine gt_X4_17 hX dX4_gather_75 (by assumption) (by exact rfl) ?_
            refine aw_aload_n hX dX4_gather_78 rfl ?_
            refine gt_X4_26 hX dX4_gather_79 (by assumption) (by exact rfl) ?_
            refine aw_aaldN hX ((memL M i).length + 1) (by assumption) (by decide) rfl (by omega) (by decide) (p2 _ (by omega)) dX4_gather_82 ?_
            refine aw_callV0 hX RX4 rfl (tX5_draw _ _ _ f hW hW40 hS hiK (s := 0) (by decide) (by decide) b r2i (by omega)) rfl mf_X5_draw mi_X5_draw ms_X5_draw kl_X4_68 (by assumption) rfl rfl (by decide) (Nat.le_of_ble_eq_true rfl) dX4_gather_83 (by decide) (fun v_83 h_83 p_83 => ?_)
            obtain ⟨rfl, rfl⟩ := p_83
            have e := e.pic (i := (memL M i).length + 1) (by omega) (pF W v.2.2.1 i 0)
            have sm := sm.set (a := a + 3 + ((memL M i).length + 1)) (c := cI 40 (pF W v.2.2.1 i 0)) (by omega) (by omega)
            refine aw_iinc hX (nI (i + 1)) dX4_gather_86 rfl (nI_1 i) ?_
            refine aw_goto hX 24 dX4_gather_89 (by decide) ?_
            exact ih (i + 1) _ _ _ hi (by omega) (by rw [hs, List.length_append]; exact e) (GA_up ga hs) sm
  have e0 := e.1
  have s0 := f.1
  refine aw_aload_n hX dX4_gather_0 rfl ?_
  refine aw_iconst hX (0) dX4_gather_1 (by decide) ?_
  refine pt_X4_26 hX dX4_gather_2 (by assumption) (Nat.le_of_ble_eq_true rfl) ?_
  dsimp only [List.set_cons_zero, List.set_cons_succ]
  have e := e.a0 0
  have f := f.off (a := a) (cO 4 [.ref (a + 1), .ref (a + 2), .ref (a + 9), .ref (a + 16), .int (nI 0)]) (by omega)
  obtain ⟨e0, e1, ⟨⟨g2, e2, p2⟩, r2⟩, e3, e4⟩ := id e
  have s0 := f.1
  have d0 := f.2.1.1
  have d1 := f.2.1.2.1
  have r20 := r2 0 (by decide)
  refine aw_aload_n hX dX4_gather_5 rfl ?_
  refine gt_X4_34 hX dX4_gather_6 (by assumption) (by exact rfl) ?_
  refine gt_X4_59 hX dX4_gather_9 (by assumption) (by exact rfl) ?_
  refine aw_aload_n hX dX4_gather_12 rfl ?_
  refine gt_X4_17 hX dX4_gather_13 (by assumption) (by exact rfl) ?_
  refine aw_iconst hX (0) dX4_gather_16 (by decide) ?_
  refine aw_aaldN hX (0) (by assumption) (by decide) rfl (by decide) (by decide) (p2 _ (by decide)) dX4_gather_17 ?_
  refine aw_callSN0 hX RX4 "FlipBoard" rfl (tX9_copy _ _ _ d1 r20 (by decide)) rfl mf_X9_copy mt_X9_copy kl_X4_64 rfl (by decide) (Nat.le_of_ble_eq_true rfl) dX4_gather_18 (by decide) (fun v_18 h_18 p_18 => ?_)
  obtain ⟨rfl, rfl⟩ := p_18
  have e := e.pic (i := 0) (by decide) v.1.2.1
  refine aw_iconst hX (0) dX4_gather_21 (by decide) ?_
  refine aw_istore hX dX4_gather_22 (Nat.le_of_ble_eq_true rfl) ?_
  exact loop 9 0 _ _ _ (by decide) (by decide) e ⟨fun k hk => absurd hk (Nat.not_lt_zero _), if_pos rfl⟩ ((Sm.rf.set (Nat.le_refl _) (by omega)).set (by omega) (by omega))
theorem tX4_find (l : Launch) (E : EV) (n : Nat) (H : HOrd h a O) {M : Int32} {p : Nat} {v : PV} (Hp : HState h p v) (hpa : p + 15 ≤ a ∨ a + 49 ≤ p) {W : Nat} (hW : v.1.1 = nI W) (hW40 : W ≤ 40) (hS : WS v.2.2.1) (hM : ∀ i, i < 8 → ¬ M &&& mk i = 0 → i < v.2.2.1.2.2.2.2) (hlen : (memL M 8).length ≤ 5) {b : Nat} (hb : HPaint h b) (hba : b + 3 ≤ a ∨ a + 49 ≤ b) : MX4_find l E n h [.ref a, .ref p, .int M, .ref b] (fun r h' => r = none ∧ ∃ me pi st, HOrd h' a (me, pi, st, FEt st (memL M 8).length (2 ^ (memL M 8).length - 1) O.2.2.2.1, (memL M 8).length) ∧ GA M v W 8 me pi ∧ (∀ i j, i ≤ (memL M 8).length → j ≤ (memL M 8).length → st i j = dfF v (pi i) (pi j)) ∧ Sm a (a + 49) h h') := by
  have hz : (memL M 8).length < 6 := by omega
  have hp2 := p2_lt hz
  have e0 := H.1
  have s0 := Hp.1
  refine AM.intro mf_X4_find (by simp [Value.category]) (Nat.le_of_ble_eq_true rfl) (fun X hl hE hnm hX => ?_)
  subst hl
  subst hE
  show AW X _ _ 0 0 0 [some (.ref a), some (.ref p), some (.int M), some (.ref b), none, none] []
  generalize (memL M 8).length = z at *
  sorry
end FIND2
