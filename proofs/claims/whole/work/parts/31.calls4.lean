/-! foreseeing, ordering -/
def SB (S : SV) : Prop := ∀ i, B7 (S.1 i)
theorem sbF_B7 {co : IF} (hc : ∀ i, B7 (co i)) (wd ch : Nat → Nat) : ∀ (r i : Nat) (z : Int), B7 (sbF co wd ch r i z)
  | 0, _, _ => B7_0
  | r + 1, i, z => by
    rw [sbF]
    split
    · exact B7_0
    · split
      · rw [cF]
        split
        · exact B7_0
        · exact hc _
      · exact sbF_B7 hc wd ch r (i + 1) _
theorem pF_B7 {S : SV} (hS : SB S) (W m : Nat) (s : Int) (c : Nat) : B7 (pF W S m s c) := by
  rw [pF]
  split
  · exact sbF_B7 hS _ _ _ _ _
  · exact B7_0
theorem aim_VW {v : PV} {W P o : Nat} (H : VW v W P o) {p : IF} (hp : ∀ c, B7 (p c)) : VW (aimD v p, v.2) W P o := by
  obtain ⟨h1, h2, h3, h4, h5, h6⟩ := H
  exact ⟨h1, h2, h3, h4, h5, fun c hc => ⟨(h6 c hc).1, hp c, (h6 c hc).2.2⟩⟩
def sfF (P o : Nat) (t : PV) : Nat → Nat → Int32
  | 0, _ => -1009
  | r + 1, i => if dueN (secN P o i t) = 0 then nI i else sfF P o t r (i + 1)
def fSeconds (B : FV) (W P o : Nat) (m w : Int32) : Int32 :=
  if wmF (BS B) m w then sfF P o (aimD B.1 (shF B.1 W m.toNatClampNeg w.toNatClampNeg), B.1.2) 301 0 else -1001
abbrev soF (S : SV) (M : Int32) : Prop := 0 < M ∧ M < mk S.2.2.2.2 ∧ bcF M ≤ 5
theorem so_bit : ∀ m, m < 256 → ∀ i, i < 8 → ¬ nI m &&& mk i = 0 → 2 ^ i ≤ m := by decide +kernel
theorem so_len : ∀ m, m < 256 → bcF (nI m) = nI (memL (nI m) 8).length := by decide +kernel
theorem so_len8 (M : Int32) : (memL M 8).length ≤ 8 := by
  have h : (memL M 8).length ≤ (List.range 8).length := List.length_filter_le _ _
  rw [List.length_range] at h
  exact h
theorem so_mk : ∀ k, k ≤ 8 → mk k = nI (2 ^ k) := by decide
theorem so_ex {S : SV} (hK : S.2.2.2.2 ≤ 8) {M : Int32} (H : soF S M) : ∃ m, m < 2 ^ S.2.2.2.2 ∧ M = nI m ∧ m < 256 := by
  obtain ⟨h1, h2, h3⟩ := H
  rw [so_mk _ hK] at h2
  have h4 : 2 ^ S.2.2.2.2 ≤ 2 ^ 8 := Nat.pow_le_pow_right (by decide) hK
  obtain ⟨m, hm, e⟩ := rng (2 ^ S.2.2.2.2) (by omega) (Int32.le_of_lt h1) h2
  exact ⟨m, hm, e, by omega⟩
theorem so_in {S : SV} (hK : S.2.2.2.2 ≤ 8) {M : Int32} (H : soF S M) : (∀ i, i < 8 → ¬ M &&& mk i = 0 → i < S.2.2.2.2) ∧ (memL M 8).length ≤ 5 ∧ bcF M = nI (memL M 8).length := by
  obtain ⟨m, h1, rfl, h2⟩ := so_ex hK H
  have h3 := so_len m h2
  refine ⟨fun i hi q => ?_, ?_, h3⟩
  · have h4 := so_bit m h2 i hi q
    exact (Nat.pow_lt_pow_iff_right (by decide : 1 < 2)).mp (Nat.lt_of_le_of_lt h4 h1)
  · have h5 := H.2.2
    rw [h3] at h5
    have h6 := so_len8 (nI m)
    exact (nI_leI (b := 5) (by omega) (by decide)).mp h5
theorem ipF_0 (st : Nat → IF) (z m : Nat) (hm : ¬ m = 0) : ∀ (j : Nat) (T : Nat → IF), ipF st z m j T 0 = T 0
  | 0, _ => rfl
  | j + 1, T => by
    rw [ipF, va_up, if_neg (fun q => hm q.symm)]
    exact ipF_0 st z m hm j T
theorem FEt_0 (st : Nat → IF) (z : Nat) : ∀ (m : Nat) (T : Nat → IF), FEt st z m T 0 = T 0
  | 0, _ => rfl
  | m + 1, T => by
    rw [FEt, ipF_0 st z (m + 1) (by omega)]
    exact FEt_0 st z m T
def fOrder (B : FV) (M w : Int32) (me : IF) (st T : Nat → IF) : Int32 :=
  if soF (BS B) M ∧ 0 ≤ w ∧ w ≤ 5 then (if w ≤ bcF M then (if w = 0 then FEt st (memL M 8).length (2 ^ (memL M 8).length - 1) T (2 ^ (memL M 8).length - 1) 0 else me (maF st (FEt st (memL M 8).length (2 ^ (memL M 8).length - 1) T) (memL M 8).length w.toNatClampNeg).2) else -1009) else -1001
section C5
variable {h : HP} {x : Nat} {B : FV}
theorem tX9_isSetToOrder (l : Launch) (E : EV) (n : Nat) (H : HB h x B) (M : Int32) : MX9_isSetToOrder l E n h [.ref x, .int M] (PR (.int (bI (soF (BS B) M))) h) := by
  obtain ⟨e0, ev, -⟩ := H
  have s0 := ev.1
  have c0 := ev.2.2.2.1.1
  refine AM.intro mf_X9_isSetToOrder (by simp [Value.category]) (Nat.le_of_ble_eq_true rfl) (fun X hl hE hnm hX => ?_)
  subst hl
  subst hE
  show AW X _ _ 0 0 0 [some (.ref x), some (.int M)] []
  refine aw_iload_n hX dX9_isSetToOrder_0 rfl ?_
  refine aw_if_le hX 32 dX9_isSetToOrder_1 (by decide) (fun c_1 => ?_) (fun c_1 => ?_)
  · refine aw_iconst hX (0) dX9_isSetToOrder_32 (by decide) ?_
    exact aw_zret hX rfl (Or.inl rfl) rfl rfl rfl dX9_isSetToOrder_33 (prF (fun q => Int32.not_lt.mpr c_1 q.1))
  · refine aw_iload_n hX dX9_isSetToOrder_4 rfl ?_
    refine aw_iconst hX (1) dX9_isSetToOrder_5 (by decide) ?_
    refine aw_aload_n hX dX9_isSetToOrder_6 rfl ?_
    refine gt_X9_10 hX dX9_isSetToOrder_7 (by assumption) (by exact rfl) ?_
    refine gt_X9_100 hX dX9_isSetToOrder_10 (by assumption) (by exact rfl) ?_
    refine gt_X9_114 hX dX9_isSetToOrder_13 (by assumption) (by exact rfl) ?_
    refine aw_ishl hX dX9_isSetToOrder_16 ?_
    refine aw_icmp_ge hX 32 dX9_isSetToOrder_17 (by decide) (fun c_17 => ?_) (fun c_17 => ?_)
    · refine aw_iconst hX (0) dX9_isSetToOrder_32 (by decide) ?_
      exact aw_zret hX rfl (Or.inl rfl) rfl rfl rfl dX9_isSetToOrder_33 (prF (fun q => Int32.not_lt.mpr c_17 q.2.1))
    · refine aw_iload_n hX dX9_isSetToOrder_20 rfl ?_
      refine aw_callSp hX RX9 rfl (tJ6_bitCount _ _ _ _ _) rfl mf_J6_bitCount_0f7a4 mt_J6_bitCount_0f7a4 kl_X9_259 rfl (by decide) (Nat.le_of_ble_eq_true rfl) dX9_isSetToOrder_21 (by decide) ?_
      refine aw_iconst hX (5) dX9_isSetToOrder_24 (by decide) ?_
      refine aw_icmp_gt hX 32 dX9_isSetToOrder_25 (by decide) (fun c_25 => ?_) (fun c_25 => ?_)
      · refine aw_iconst hX (0) dX9_isSetToOrder_32 (by decide) ?_
        exact aw_zret hX rfl (Or.inl rfl) rfl rfl rfl dX9_isSetToOrder_33 (prF (fun q => Int32.not_le.mpr c_25 q.2.2))
      · refine aw_iconst hX (1) dX9_isSetToOrder_28 (by decide) ?_
        refine aw_goto hX 33 dX9_isSetToOrder_29 (by decide) ?_
        exact aw_zret hX rfl (by first | exact Or.inl rfl | exact Or.inr rfl | assumption) rfl rfl rfl dX9_isSetToOrder_33 (by exact prT ⟨Int32.not_le.mp c_1, Int32.not_le.mp c_17, Int32.not_lt.mp c_25⟩)
theorem tX9_secondsFor (l : Launch) (E : EV) (n : Nat) (H : HB h x B) {W P o : Nat} (hV : VW B.1 W P o) (hB : SB (BS B)) (hT : B.1.2.1.2.2.2.1 + 400 < 2 ^ 30) (m w : Int32) : MX9_secondsFor l E n h [.ref x, .int m, .int w] (PB x h (fSeconds B W P o m w, B)) := by
  obtain ⟨v1, v2, hS, -⟩ := id hV
  have e := H
  obtain ⟨e0, ev, eh, et, tr, R, O, gt, -⟩ := H
  have s0 := ev.1
  have p0 := e.hp.1
  have hK8 : B.1.2.2.1.2.2.2.2 ≤ 8 := hS.1
  by_cases hv : wmF (BS B) m w
  · obtain ⟨⟨k, hk, rfl⟩, j, hj, rfl⟩ := wm_ex hS.1 hv
    have hkc : (nI k).toNatClampNeg = k := nI_clamp (by omega)
    have hjc : (nI j).toNatClampNeg = j := nI_clamp (by omega)
    rw [fSeconds, if_pos hv, hkc, hjc]
    have hp7 : ∀ c, B7 (shF B.1 W k j c) := fun c => pF_B7 hB _ _ _ _
    have hV2 := aim_VW hV hp7
    generalize ht : ((aimD B.1 (shF B.1 W k j), B.1.2) : PV) = t at hV2 ⊢
    have hT2 : t.2.1.2.2.2.1 + 400 < 2 ^ 30 := by rw [← ht]; exact hT
    refine AM.intro mf_X9_secondsFor (by simp [Value.category]) (Nat.le_of_ble_eq_true rfl) (fun X hl hE hnm hX => ?_)
    subst hl
    subst hE
    show AW X _ _ 0 0 0 [some (.ref x), some (.int (nI k)), some (.int (nI j)), none] []
    have loop : ∀ (r i : Nat) (hh : HP), i + r = 301 → HB hh x B → HState hh (x + 16) (secN P o i t) → Sm x (x + 184) h hh → sfF P o t 301 0 = sfF P o t r i → AW X n hh 0 0 56 [some (.ref x), some (.int (nI k)), some (.int (nI j)), some (.int (nI i))] [] := by
      intro r
      induction r with
      | zero =>
        intro i hh h1 e q sm hq
        have hi : i = 301 := by omega
        subst hi
        replace hq := hq.trans (show sfF P o t 0 301 = -1009 from rfl)
        rw [hq] at hX
        refine aw_iload_n hX dX9_secondsFor_56 rfl ?_
        refine aw_sipush hX (300) dX9_secondsFor_57 (by decide) ?_
        refine aw_icmp_gt hX 95 dX9_secondsFor_60 (by decide) (fun c_60 => ?_) (fun c_60 => ?_)
        · refine aw_sipush hX (-1009) dX9_secondsFor_95 (by decide) ?_
          exact aw_iret hX rfl rfl rfl rfl dX9_secondsFor_98 (by exact ⟨rfl, e, sm⟩)
        · exact absurd (show (300 : Int32) < nI 301 by decide) c_60
      | succ r ih =>
        intro i hh h1 e q sm hq
        have e0 := e.1
        have s0 := q.1
        have d0 := q.2.1.1
        have f0 := e.hf.1
        obtain ⟨u1, u2, u3, ⟨u4, u5, u6⟩, ⟨u7, u8⟩, u9⟩ := secN_VW hV2 i
        have hT3 := (secN_K t P o i).2.2
        replace hq := hq.trans (show sfF P o t (r + 1) i = if dueN (secN P o i t) = 0 then nI i else sfF P o t r (i + 1) from rfl)
        refine aw_iload_n hX dX9_secondsFor_56 rfl ?_
        refine aw_sipush hX (300) dX9_secondsFor_57 (by decide) ?_
        refine aw_icmp_gt hX 95 dX9_secondsFor_60 (by decide) (fun c_60 => ?_) (fun c_60 => ?_)
        · exact absurd c_60 (Int32.not_lt.mpr ((nI_leI (a := i) (b := 300) (by omega) (by decide)).mpr (by omega)))
        · refine aw_aload_n hX dX9_secondsFor_63 rfl ?_
          refine gt_X9_16 hX dX9_secondsFor_64 (by assumption) (by exact rfl) ?_
          refine gt_X9_66 hX dX9_secondsFor_67 (by assumption) (by exact rfl) ?_
          refine aw_callVp hX RX9 rfl (tX0_dueDots _ _ _ q.2.1) rfl mf_X0_dueDots mi_X0_dueDots ms_X0_dueDots kl_X9_158 (by assumption) rfl rfl (by decide) (Nat.le_of_ble_eq_true rfl) dX9_secondsFor_70 (by decide) ?_
          refine aw_if_ne hX 78 dX9_secondsFor_73 (by decide) (fun c_73 => ?_) (fun c_73 => ?_)
          · rw [if_neg (show ¬ dueN (secN P o i t) = 0 from c_73)] at hq
            refine aw_aload_n hX dX9_secondsFor_78 rfl ?_
            refine gt_X9_36 hX dX9_secondsFor_79 (by assumption) (by exact rfl) ?_
            refine aw_aload_n hX dX9_secondsFor_82 rfl ?_
            refine gt_X9_16 hX dX9_secondsFor_83 (by assumption) (by exact rfl) ?_
            refine aw_callV0 hX RX9 rfl (tX1_passSecond _ _ _ q u1 e.hf (by omega) u9.len u4 u7 u6 u8 (by rw [hT3]; omega) (fun k hk => u9.ord o hk)) rfl mf_X1_passSecond mi_X1_passSecond ms_X1_passSecond kl_X9_182 (by assumption) rfl rfl (by decide) (Nat.le_of_ble_eq_true rfl) dX9_secondsFor_86 (by decide) (fun v_86 h_86 p_86 => ?_)
            obtain ⟨rfl, q2, f, s2⟩ := p_86
            have e := (e.flipd f).tria q2 s2
            have sm := (sm.set (a := x + 126 + 1) (c := cI 40 f) (by omega) (by omega)).tr s2 (by omega) (by omega)
            refine aw_iinc hX (nI (i + 1)) dX9_secondsFor_89 rfl (nI_1 i) ?_
            refine aw_goto hX 56 dX9_secondsFor_92 (by decide) ?_
            exact ih (i + 1) _ (by omega) e q2 sm hq
          · rw [if_pos (show dueN (secN P o i t) = 0 from c_73)] at hq
            rw [hq] at hX
            refine aw_iload_n hX dX9_secondsFor_76 rfl ?_
            exact aw_iret hX rfl rfl rfl rfl dX9_secondsFor_77 (by exact ⟨rfl, e, sm⟩)
    refine aw_aload_n hX dX9_secondsFor_0 rfl ?_
    refine aw_iload_n hX dX9_secondsFor_1 rfl ?_
    refine aw_iload_n hX dX9_secondsFor_2 rfl ?_
    refine aw_callVp hX RX9 rfl (tX9_canShow _ _ _ e (nI k) (nI j)) rfl mf_X9_canShow mi_X9_canShow ms_X9_canShow kl_X9_143 (by assumption) rfl rfl (by decide) (Nat.le_of_ble_eq_true rfl) dX9_secondsFor_3 (by decide) ?_
    refine aw_if_ne hX 13 dX9_secondsFor_6 (by decide) (fun c_6 => ?_) (fun c_6 => ?_)
    · refine aw_aload_n hX dX9_secondsFor_13 rfl ?_
      refine gt_X9_29 hX dX9_secondsFor_14 (by assumption) (by exact rfl) ?_
      refine aw_aload_n hX dX9_secondsFor_17 rfl ?_
      refine gt_X9_10 hX dX9_secondsFor_18 (by assumption) (by exact rfl) ?_
      refine aw_iload_n hX dX9_secondsFor_21 rfl ?_
      refine aw_iload_n hX dX9_secondsFor_22 rfl ?_
      refine aw_callV0 hX RX9 rfl (tX5_drawAs _ _ _ ev v1 v2.2 hS hk e.hp (by omega) hj) rfl mf_X5_drawAs mi_X5_drawAs ms_X5_drawAs kl_X9_147 (by assumption) rfl rfl (by decide) (Nat.le_of_ble_eq_true rfl) dX9_secondsFor_23 (by decide) (fun v_23 h_23 p_23 => ?_)
      obtain ⟨rfl, rfl⟩ := p_23
      have sm := Sm.set (lo := x) (hi := x + 184) (Sm.rf (h := h)) (a := x + 123 + 1) (c := cI 40 (shF B.1 W k j)) (by omega) (by omega)
      have e := e.drawn (shF B.1 W k j)
      have gt := gt.off (a := x + 123 + 1) (cI 40 (shF B.1 W k j)) (by omega)
      have e0 := e.1
      have g0 := gt.1
      have p1 := hset_eq h (x + 123 + 1) (cI 40 (shF B.1 W k j))
      refine aw_aload_n hX dX9_secondsFor_26 rfl ?_
      refine gt_X9_16 hX dX9_secondsFor_27 (by assumption) (by exact rfl) ?_
      refine aw_aload_n hX dX9_secondsFor_30 rfl ?_
      refine gt_X9_10 hX dX9_secondsFor_31 (by assumption) (by exact rfl) ?_
      refine aw_callV0 hX RX9 rfl (tX8_copyFrom _ _ _ gt e.2.1 (by omega)) rfl mf_X8_copyFrom mi_X8_copyFrom ms_X8_copyFrom kl_X9_251 (by assumption) rfl rfl (by decide) (Nat.le_of_ble_eq_true rfl) dX9_secondsFor_34 (by decide) (fun v_34 h_34 p_34 => ?_)
      obtain ⟨rfl, q, s2⟩ := p_34
      have e := e.tria q s2
      have sm := sm.tr s2 (by omega) (by omega)
      have e0 := e.1
      have g0 := q.1
      have d0 := q.2.1.1
      have p0 := e.hp.1
      have p1 := (s2.at (by omega)).trans p1
      refine aw_aload_n hX dX9_secondsFor_37 rfl ?_
      refine gt_X9_16 hX dX9_secondsFor_38 (by assumption) (by exact rfl) ?_
      refine gt_X9_66 hX dX9_secondsFor_41 (by assumption) (by exact rfl) ?_
      refine aw_aload_n hX dX9_secondsFor_44 rfl ?_
      refine gt_X9_29 hX dX9_secondsFor_45 (by assumption) (by exact rfl) ?_
      refine gt_X9_151 hX dX9_secondsFor_48 (by assumption) (by exact rfl) ?_
      refine aw_callV0 hX RX9 rfl (tX0_aimAt _ _ _ q.2.1 p1) rfl mf_X0_aimAt mi_X0_aimAt ms_X0_aimAt kl_X9_154 (by assumption) rfl rfl (by decide) (Nat.le_of_ble_eq_true rfl) dX9_secondsFor_51 (by decide) (fun v_51 h_51 p_51 => ?_)
      obtain ⟨rfl, q1, s2⟩ := p_51
      have q := q.dots (v' := aimD B.1 (shF B.1 W k j)) q1 s2
      have s2 := Sm.tr (lo := x + 16) (hi := x + 16 + 15) Sm.rf s2 (by omega) (by omega)
      have e := e.tria q s2
      have sm := sm.tr s2 (by omega) (by omega)
      refine aw_iconst hX (0) dX9_secondsFor_54 (by decide) ?_
      refine aw_istore_n hX dX9_secondsFor_55 (Nat.le_of_ble_eq_true rfl) ?_
      exact loop 301 0 _ rfl e (by rw [← ht]; exact q) sm rfl
    · refine aw_sipush hX (-1001) dX9_secondsFor_9 (by decide) ?_
      exact aw_iret hX rfl rfl rfl rfl dX9_secondsFor_12 (by exact absurd hv (bI_eq0.mp c_6))
  · rw [fSeconds, if_neg hv]
    refine AM.intro mf_X9_secondsFor (by simp [Value.category]) (Nat.le_of_ble_eq_true rfl) (fun X hl hE hnm hX => ?_)
    subst hl
    subst hE
    show AW X _ _ 0 0 0 [some (.ref x), some (.int m), some (.int w), none] []
    refine aw_aload_n hX dX9_secondsFor_0 rfl ?_
    refine aw_iload_n hX dX9_secondsFor_1 rfl ?_
    refine aw_iload_n hX dX9_secondsFor_2 rfl ?_
    refine aw_callVp hX RX9 rfl (tX9_canShow _ _ _ e m w) rfl mf_X9_canShow mi_X9_canShow ms_X9_canShow kl_X9_143 (by assumption) rfl rfl (by decide) (Nat.le_of_ble_eq_true rfl) dX9_secondsFor_3 (by decide) ?_
    refine aw_if_ne hX 13 dX9_secondsFor_6 (by decide) (fun c_6 => ?_) (fun c_6 => ?_)
    · exact absurd (Decidable.not_not.mp (fun q => c_6 (bI_eq0.mpr q))) hv
    · refine aw_sipush hX (-1001) dX9_secondsFor_9 (by decide) ?_
      exact aw_iret hX rfl rfl rfl rfl dX9_secondsFor_12 (by exact ⟨rfl, e, Sm.rf⟩)
theorem tX9_bestOrder (l : Launch) (E : EV) (n : Nat) (H : HB h x B) {W P o : Nat} (hV : VW B.1 W P o) (M w : Int32) : MX9_bestOrder l E n h [.ref x, .int M, .int w] (fun r h' => ∃ me pi st T, ((soF (BS B) M ∧ 0 ≤ w ∧ w ≤ 5) ∧ w ≤ bcF M → GA M B.1 W 8 me pi ∧ (∀ i j, i ≤ (memL M 8).length → j ≤ (memL M 8).length → st i j = dfF B.1 (pi i) (pi j)) ∧ ∀ j, j < 6 → T 0 j = 0) ∧ PB x h (fOrder B M w me st T, B) r h') := by
  obtain ⟨v1, v2, hS, -⟩ := hV
  have e := H
  obtain ⟨e0, ev, eh, et, tr, R, O, g1, g2, g3, g4, g5, g6, g7⟩ := H
  have s0 := ev.1
  have o0 := g5.1
  have p0 := g2.1
  refine AM.intro mf_X9_bestOrder (by simp [Value.category]) (Nat.le_of_ble_eq_true rfl) (fun X hl hE hnm hX => ?_)
  subst hl
  subst hE
  show AW X _ _ 0 0 0 [some (.ref x), some (.int M), some (.int w)] []
  refine aw_aload_n hX dX9_bestOrder_0 rfl ?_
  refine aw_iload_n hX dX9_bestOrder_1 rfl ?_
  refine aw_callVp hX RX9 rfl (tX9_isSetToOrder _ _ _ e M) rfl mf_X9_isSetToOrder mi_X9_isSetToOrder ms_X9_isSetToOrder kl_X9_256 (by assumption) rfl rfl (by decide) (Nat.le_of_ble_eq_true rfl) dX9_bestOrder_2 (by decide) ?_
  refine aw_if_eq hX 17 dX9_bestOrder_5 (by decide) (fun c_5 => ?_) (fun c_5 => ?_)
  · refine aw_sipush hX (-1001) dX9_bestOrder_17 (by decide) ?_
    exact aw_iret hX rfl rfl rfl rfl dX9_bestOrder_20 ⟨fun _ => 0, fun _ _ => 0, fun _ _ => 0, fun _ _ => 0, fun q => absurd q.1.1 (bI_eq0.mp c_5), by rw [fOrder, if_neg (fun q => bI_eq0.mp c_5 q.1)]; exact ⟨rfl, e, Sm.rf⟩⟩
  · refine aw_iload_n hX dX9_bestOrder_8 rfl ?_
    refine aw_if_lt hX 17 dX9_bestOrder_9 (by decide) (fun c_9 => ?_) (fun c_9 => ?_)
    · refine aw_sipush hX (-1001) dX9_bestOrder_17 (by decide) ?_
      exact aw_iret hX rfl rfl rfl rfl dX9_bestOrder_20 ⟨fun _ => 0, fun _ _ => 0, fun _ _ => 0, fun _ _ => 0, fun q => absurd q.1.2.1 (Int32.not_le.mpr c_9), by rw [fOrder, if_neg (fun q => Int32.not_le.mpr c_9 q.2.1)]; exact ⟨rfl, e, Sm.rf⟩⟩
    · refine aw_iload_n hX dX9_bestOrder_12 rfl ?_
      refine aw_iconst hX (5) dX9_bestOrder_13 (by decide) ?_
      refine aw_icmp_le hX 21 dX9_bestOrder_14 (by decide) (fun c_14 => ?_) (fun c_14 => ?_)
      · have hv := And.intro (Decidable.not_not.mp (fun q => c_5 (bI_eq0.mpr q))) (And.intro (Int32.not_lt.mp c_9) c_14)
        obtain ⟨i1, i2, i3⟩ := so_in hS.1 hv.1
        refine aw_iload_n hX dX9_bestOrder_21 rfl ?_
        refine aw_iload_n hX dX9_bestOrder_22 rfl ?_
        refine aw_callSp hX RX9 rfl (tJ6_bitCount _ _ _ _ _) rfl mf_J6_bitCount_0f7a4 mt_J6_bitCount_0f7a4 kl_X9_259 rfl (by decide) (Nat.le_of_ble_eq_true rfl) dX9_bestOrder_23 (by decide) ?_
        refine aw_icmp_le hX 33 dX9_bestOrder_26 (by decide) (fun c_26 => ?_) (fun c_26 => ?_)
        · refine aw_aload_n hX dX9_bestOrder_33 rfl ?_
          refine gt_X9_50 hX dX9_bestOrder_34 (by assumption) (by exact rfl) ?_
          refine aw_aload_n hX dX9_bestOrder_37 rfl ?_
          refine gt_X9_10 hX dX9_bestOrder_38 (by assumption) (by exact rfl) ?_
          refine aw_iload_n hX dX9_bestOrder_41 rfl ?_
          refine aw_aload_n hX dX9_bestOrder_42 rfl ?_
          refine gt_X9_29 hX dX9_bestOrder_43 (by assumption) (by exact rfl) ?_
          refine aw_callV0 hX RX9 rfl (tX4_find _ _ _ g5 ev (by omega) v1 v2.2 hS i1 i2 g2 (by omega)) rfl mf_X4_find mi_X4_find ms_X4_find kl_X9_264 (by assumption) rfl rfl (by decide) (Nat.le_of_ble_eq_true rfl) dX9_bestOrder_46 (by decide) (fun v_46 h_46 p_46 => ?_)
          obtain ⟨rfl, me, pi, st, q, ga, hst, s2⟩ := p_46
          have e := e.orde q s2 (fun j hj => (congrFun (FEt_0 st _ _ _) j).trans (g7 j hj))
          have sm := Sm.tr (lo := x) (hi := x + 184) Sm.rf s2 (by omega) (by omega)
          have e0 := e.1
          have q0 := q.1
          refine aw_iload_n hX dX9_bestOrder_49 rfl ?_
          refine aw_if_ne hX 63 dX9_bestOrder_50 (by decide) (fun c_50 => ?_) (fun c_50 => ?_)
          · obtain ⟨k, hk, rfl⟩ := rng 6 (by decide) hv.2.1 (Int32.lt_of_le_of_lt hv.2.2 (by decide))
            have hkc : (nI k).toNatClampNeg = k := nI_clamp (by omega)
            have hkz : k ≤ (memL M 8).length := by have q := c_26; rw [i3] at q; exact (nI_leI (by omega) (by omega)).mp q
            refine aw_aload_n hX dX9_bestOrder_63 rfl ?_
            refine gt_X9_50 hX dX9_bestOrder_64 (by assumption) (by exact rfl) ?_
            refine aw_iload_n hX dX9_bestOrder_67 rfl ?_
            refine aw_callVp hX RX9 rfl (tX4_messageAt _ _ _ q (by show (memL M 8).length < 6; omega) (k := k) hkz) rfl mf_X4_messageAt mi_X4_messageAt ms_X4_messageAt kl_X9_271 (by assumption) rfl rfl (by decide) (Nat.le_of_ble_eq_true rfl) dX9_bestOrder_68 (by decide) ?_
            have hans : me (maF st (FEt st (memL M 8).length (2 ^ (memL M 8).length - 1) O.2.2.2.1) (memL M 8).length k).2 = fOrder B M (nI k) me st O.2.2.2.1 := by rw [fOrder, if_pos hv, if_pos c_26, if_neg c_50, hkc]
            exact aw_iret hX rfl rfl rfl rfl dX9_bestOrder_71 (by exact ⟨me, pi, st, O.2.2.2.1, fun _ => ⟨ga, hst, g7⟩, congrArg (fun z => some (Value.int z)) hans, e, sm⟩)
          · refine aw_aload_n hX dX9_bestOrder_53 rfl ?_
            refine gt_X9_50 hX dX9_bestOrder_54 (by assumption) (by exact rfl) ?_
            refine aw_callVp hX RX9 rfl (tX4_fewestFlips _ _ _ q (by show (memL M 8).length < 6; omega)) rfl mf_X4_fewestFlips mi_X4_fewestFlips ms_X4_fewestFlips kl_X9_268 (by assumption) rfl rfl (by decide) (Nat.le_of_ble_eq_true rfl) dX9_bestOrder_57 (by decide) ?_
            have hans : FEt st (memL M 8).length (2 ^ (memL M 8).length - 1) O.2.2.2.1 (2 ^ (memL M 8).length - 1) 0 = fOrder B M w me st O.2.2.2.1 := by rw [fOrder, if_pos hv, if_pos c_26, if_pos c_50]
            refine aw_goto hX 71 dX9_bestOrder_60 (by decide) ?_
            exact aw_iret hX rfl rfl rfl rfl dX9_bestOrder_71 (by exact ⟨me, pi, st, O.2.2.2.1, fun _ => ⟨ga, hst, g7⟩, congrArg (fun z => some (Value.int z)) hans, e, sm⟩)
        · refine aw_sipush hX (-1009) dX9_bestOrder_29 (by decide) ?_
          exact aw_iret hX rfl rfl rfl rfl dX9_bestOrder_32 (by exact ⟨fun _ => 0, fun _ _ => 0, fun _ _ => 0, fun _ _ => 0, fun q => absurd q.2 c_26, by rw [fOrder, if_pos hv, if_neg c_26]; exact ⟨rfl, e, Sm.rf⟩⟩)
      · refine aw_sipush hX (-1001) dX9_bestOrder_17 (by decide) ?_
        exact aw_iret hX rfl rfl rfl rfl dX9_bestOrder_20 (by exact ⟨fun _ => 0, fun _ _ => 0, fun _ _ => 0, fun _ _ => 0, fun q => absurd q.1.2.2 c_14, by rw [fOrder, if_neg (fun q => c_14 q.2.2)]; exact ⟨rfl, e, Sm.rf⟩⟩)
end C5
