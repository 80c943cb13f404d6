/-! the best shift -/
def SH (k : Nat) : Int := [0, -1, 1, -2, 2].getD k 0
theorem SH_eF (E : EV) {k : Nat} (hk : k < 5) : eF E 3 k = iI (SH k) := by
  match k, hk with
  | 0, _ => rfl
  | 1, _ => rfl
  | 2, _ => rfl
  | 3, _ => rfl
  | 4, _ => rfl
theorem SH_in {k : Nat} (hk : k < 5) : -2 ≤ SH k ∧ SH k ≤ 2 := by
  match k, hk with
  | 0, _ => decide
  | 1, _ => decide
  | 2, _ => decide
  | 3, _ => decide
  | 4, _ => decide
/-- known dots against a picture, dots that differ and aren't known -/
def agF (v : PV) (p : IF) : Int32 := sumI (fun c => bcF ((p c ^^^ v.1.2.1 c) &&& v.1.2.2.2.2.1 c)) 40
def dfF (v : PV) (p o : IF) : Int32 := sumI (fun c => bcF ((p c ^^^ o c) &&& (v.1.2.2.2.2.1 c ^^^ (-1)))) 40
/-- the best of the first k shifts: the shift, its dots against it, its due dots -/
def bsF (v : PV) (W m : Nat) : Nat → Int × Int32 × Int32
  | 0 => (0, 2147483647, 2147483647)
  | k + 1 => if agF v (pF W v.2.2.1 m (SH k)) < (bsF v W m k).2.1 ∨ (agF v (pF W v.2.2.1 m (SH k)) = (bsF v W m k).2.1 ∧ dfF v (pF W v.2.2.1 m (SH k)) v.1.2.1 < (bsF v W m k).2.2)
      then (SH k, agF v (pF W v.2.2.1 m (SH k)), dfF v (pF W v.2.2.1 m (SH k)) v.1.2.1) else bsF v W m k
def bestF (v : PV) (W m : Nat) : Int := (bsF v W m 5).1
theorem bsF_in (v : PV) (W m : Nat) : ∀ k, k ≤ 5 → -2 ≤ (bsF v W m k).1 ∧ (bsF v W m k).1 ≤ 2
  | 0, _ => by
    show (-2 : Int) ≤ 0 ∧ (0 : Int) ≤ 2
    decide
  | k + 1, h => by
    rw [bsF]
    split
    · exact SH_in (by omega)
    · exact bsF_in v W m k (by omega)
theorem bestF_in (v : PV) (W m : Nat) : -2 ≤ bestF v W m ∧ bestF v W m ≤ 2 := bsF_in v W m 5 (Nat.le_refl 5)
section BEST
variable {h : HP} {p : Nat} {v : PV} {W m : Nat}
theorem tX5_bestShiftOf (l : Launch) (E : EV) (n : Nat) (H : HState h p v) (hW : v.1.1 = nI W) (hW40 : W ≤ 40) (hS : WS v.2.2.1) (hm : m < v.2.2.1.2.2.2.2) {a : Nat} (hP : HPaint h a) (ha : a + 3 ≤ p ∨ p + 15 ≤ a) : MX5_bestShiftOf l E n h [.ref a, .ref p, .int (nI m)] (fun r h' => r = some (.int (iI (bestF v W m))) ∧ ∃ f, h' = hset h (a + 1) (cI 40 f)) := by
  have e := H
  obtain ⟨e0, e1, e2, e3, e4⟩ := H
  obtain ⟨q0, ⟨f0, q1⟩, q2⟩ := hP
  refine AM.intro mf_X5_bestShiftOf (by simp [Value.category]) (Nat.le_of_ble_eq_true rfl) (fun X hl hE hnm hX => ?_)
  subst hl
  subst hE
  show AW X _ _ 0 0 0 [some (.ref a), some (.ref p), some (.int (nI m)), none, none, none, none, none, none, none, none, none] []
  have loop : ∀ (g k : Nat) (f : IF) (x y z : Option Value), k ≤ 5 → 5 - k < g → AW X n (hset h (a + 1) (cI 40 f)) 0 0 23 [some (.ref a), some (.ref p), some (.int (nI m)), some (.int (iI (bsF v W m k).1)), some (.int (bsF v W m k).2.1), some (.int (bsF v W m k).2.2), some (.ref 3), some (.int 5), some (.int (nI k)), x, y, z] [] := by
    intro g
    induction g with
    | zero => intro k f x y z h1 h2; omega
    | succ g ih =>
      intro k f x y z h1 h2
      have e' := e.off (a := a + 1) (cI 40 f) (by omega)
      have eb := hset_eq h (a + 1) (cI 40 f)
      have q0' : hset h (a + 1) (cI 40 f) a = some (cO 5 [.ref (a + 1), .ref (a + 2)]) := (hset_ne _ _ (by omega)).trans q0
      refine aw_iload hX dX5_bestShiftOf_23 rfl ?_
      refine aw_iload hX dX5_bestShiftOf_25 rfl ?_
      refine aw_icmp_ge hX 120 dX5_bestShiftOf_27 (by decide) (fun c_27 => ?_) (fun c_27 => ?_)
      · have hk : k = 5 := lp_out h1 (by decide) c_27
        subst hk
        refine aw_iload_n hX dX5_bestShiftOf_120 rfl ?_
        exact aw_iret hX rfl rfl rfl rfl dX5_bestShiftOf_121 ⟨rfl, f, rfl⟩
      · have hk : k < 5 := lp_in h1 (by decide) c_27
        have hsh := SH_in hk
        refine aw_aload hX dX5_bestShiftOf_30 rfl ?_
        refine aw_iload hX dX5_bestShiftOf_32 rfl ?_
        refine aw_roaldN hX k (by decide) rfl hk (Nat.le_of_ble_eq_true rfl) dX5_bestShiftOf_34 ?_
        rw [SH_eF _ hk]
        refine aw_istore hX dX5_bestShiftOf_35 (Nat.le_of_ble_eq_true rfl) ?_
        refine aw_aload_n hX dX5_bestShiftOf_37 rfl ?_
        refine aw_aload_n hX dX5_bestShiftOf_38 rfl ?_
        refine aw_iload_n hX dX5_bestShiftOf_39 rfl ?_
        refine aw_iload hX dX5_bestShiftOf_40 rfl ?_
        refine aw_aload_n hX dX5_bestShiftOf_42 rfl ?_
        refine gt_X5_9 hX dX5_bestShiftOf_43 (by assumption) (by exact rfl) ?_
        refine aw_callV0 hX RX5 rfl (tX5_draw _ _ _ e' hW hW40 hS hm hsh.1 hsh.2 a eb (by omega)) rfl mf_X5_draw mi_X5_draw ms_X5_draw kl_X5_48 (by assumption) rfl rfl (by decide) (Nat.le_of_ble_eq_true rfl) dX5_bestShiftOf_46 (by decide) (fun v_46 h_46 p_46 => ?_)
        obtain ⟨rfl, rfl⟩ := p_46
        rw [hset_hset]
        clear e' eb q0'
        have e' := e.off (a := a + 1) (cI 40 (pF W v.2.2.1 m (SH k))) (by omega)
        have eb := hset_eq h (a + 1) (cI 40 (pF W v.2.2.1 m (SH k)))
        have q0' : hset h (a + 1) (cI 40 (pF W v.2.2.1 m (SH k))) a = some (cO 5 [.ref (a + 1), .ref (a + 2)]) := (hset_ne _ _ (by omega)).trans q0
        have s0 := e'.1
        have d0 := e'.2.1.1
        have d1 := e'.2.1.2.1
        refine aw_aload_n hX dX5_bestShiftOf_49 rfl ?_
        refine gt_X5_18 hX dX5_bestShiftOf_50 (by assumption) (by exact rfl) ?_
        refine aw_aload_n hX dX5_bestShiftOf_53 rfl ?_
        refine gt_X5_9 hX dX5_bestShiftOf_54 (by assumption) (by exact rfl) ?_
        refine aw_callVp hX RX5 rfl (tX0_knownAgainst _ _ _ e'.2.1 eb) rfl mf_X0_knownAgainst mi_X0_knownAgainst ms_X0_knownAgainst kl_X5_58 (by assumption) rfl rfl (by decide) (Nat.le_of_ble_eq_true rfl) dX5_bestShiftOf_57 (by decide) ?_
        refine aw_istore hX dX5_bestShiftOf_60 (Nat.le_of_ble_eq_true rfl) ?_
        refine aw_aload_n hX dX5_bestShiftOf_62 rfl ?_
        refine gt_X5_18 hX dX5_bestShiftOf_63 (by assumption) (by exact rfl) ?_
        refine aw_aload_n hX dX5_bestShiftOf_66 rfl ?_
        refine gt_X5_9 hX dX5_bestShiftOf_67 (by assumption) (by exact rfl) ?_
        refine aw_aload_n hX dX5_bestShiftOf_70 rfl ?_
        refine gt_X5_18 hX dX5_bestShiftOf_71 (by assumption) (by exact rfl) ?_
        refine gt_X5_62 hX dX5_bestShiftOf_74 (by assumption) (by exact rfl) ?_
        refine aw_callVp hX RX5 rfl (tX0_differing _ _ _ e'.2.1 eb d1) rfl mf_X0_differing mi_X0_differing ms_X0_differing kl_X5_65 (by assumption) rfl rfl (by decide) (Nat.le_of_ble_eq_true rfl) dX5_bestShiftOf_77 (by decide) ?_
        refine aw_istore hX dX5_bestShiftOf_80 (Nat.le_of_ble_eq_true rfl) ?_
        refine aw_iload hX dX5_bestShiftOf_82 rfl ?_
        refine aw_iload hX dX5_bestShiftOf_84 rfl ?_
        refine aw_icmp_lt hX 103 dX5_bestShiftOf_86 (by decide) (fun c_86 => ?_) (fun c_86 => ?_)
        · have hc : bsF v W m (k + 1) = (SH k, agF v (pF W v.2.2.1 m (SH k)), dfF v (pF W v.2.2.1 m (SH k)) v.1.2.1) := by rw [bsF]; first | exact if_pos (Or.inl c_86) | exact if_pos (Or.inr ⟨c_93, Int32.not_le.mp c_100⟩)
          have hi := ih (k + 1) (pF W v.2.2.1 m (SH k)) (some (.int (iI (SH k)))) (some (.int (agF v (pF W v.2.2.1 m (SH k))))) (some (.int (dfF v (pF W v.2.2.1 m (SH k)) v.1.2.1))) hk (by omega)
          rw [hc] at hi
          refine aw_iload hX dX5_bestShiftOf_103 rfl ?_
          refine aw_istore_n hX dX5_bestShiftOf_105 (Nat.le_of_ble_eq_true rfl) ?_
          refine aw_iload hX dX5_bestShiftOf_106 rfl ?_
          refine aw_istore hX dX5_bestShiftOf_108 (Nat.le_of_ble_eq_true rfl) ?_
          refine aw_iload hX dX5_bestShiftOf_110 rfl ?_
          refine aw_istore hX dX5_bestShiftOf_112 (Nat.le_of_ble_eq_true rfl) ?_
          refine aw_iinc hX (nI (k + 1)) dX5_bestShiftOf_114 rfl (nI_1 k) ?_
          refine aw_goto hX 23 dX5_bestShiftOf_117 (by decide) ?_
          exact hi
        · refine aw_iload hX dX5_bestShiftOf_89 rfl ?_
          refine aw_iload hX dX5_bestShiftOf_91 rfl ?_
          refine aw_icmp_ne hX 114 dX5_bestShiftOf_93 (by decide) (fun c_93 => ?_) (fun c_93 => ?_)
          · have hc : bsF v W m (k + 1) = bsF v W m k := by rw [bsF]; exact if_neg (fun q => q.elim c_86 (fun q => c_93 q.1))
            have hi := ih (k + 1) (pF W v.2.2.1 m (SH k)) (some (.int (iI (SH k)))) (some (.int (agF v (pF W v.2.2.1 m (SH k))))) (some (.int (dfF v (pF W v.2.2.1 m (SH k)) v.1.2.1))) hk (by omega)
            rw [hc] at hi
            refine aw_iinc hX (nI (k + 1)) dX5_bestShiftOf_114 rfl (nI_1 k) ?_
            refine aw_goto hX 23 dX5_bestShiftOf_117 (by decide) ?_
            exact hi
          · refine aw_iload hX dX5_bestShiftOf_96 rfl ?_
            refine aw_iload hX dX5_bestShiftOf_98 rfl ?_
            refine aw_icmp_ge hX 114 dX5_bestShiftOf_100 (by decide) (fun c_100 => ?_) (fun c_100 => ?_)
            · have hc : bsF v W m (k + 1) = bsF v W m k := by rw [bsF]; exact if_neg (fun q => q.elim c_86 (fun q => Int32.not_le.mpr q.2 c_100))
              have hi := ih (k + 1) (pF W v.2.2.1 m (SH k)) (some (.int (iI (SH k)))) (some (.int (agF v (pF W v.2.2.1 m (SH k))))) (some (.int (dfF v (pF W v.2.2.1 m (SH k)) v.1.2.1))) hk (by omega)
              rw [hc] at hi
              refine aw_iinc hX (nI (k + 1)) dX5_bestShiftOf_114 rfl (nI_1 k) ?_
              refine aw_goto hX 23 dX5_bestShiftOf_117 (by decide) ?_
              exact hi
            · have hc : bsF v W m (k + 1) = (SH k, agF v (pF W v.2.2.1 m (SH k)), dfF v (pF W v.2.2.1 m (SH k)) v.1.2.1) := by rw [bsF]; first | exact if_pos (Or.inl c_86) | exact if_pos (Or.inr ⟨c_93, Int32.not_le.mp c_100⟩)
              have hi := ih (k + 1) (pF W v.2.2.1 m (SH k)) (some (.int (iI (SH k)))) (some (.int (agF v (pF W v.2.2.1 m (SH k))))) (some (.int (dfF v (pF W v.2.2.1 m (SH k)) v.1.2.1))) hk (by omega)
              rw [hc] at hi
              refine aw_iload hX dX5_bestShiftOf_103 rfl ?_
              refine aw_istore_n hX dX5_bestShiftOf_105 (Nat.le_of_ble_eq_true rfl) ?_
              refine aw_iload hX dX5_bestShiftOf_106 rfl ?_
              refine aw_istore hX dX5_bestShiftOf_108 (Nat.le_of_ble_eq_true rfl) ?_
              refine aw_iload hX dX5_bestShiftOf_110 rfl ?_
              refine aw_istore hX dX5_bestShiftOf_112 (Nat.le_of_ble_eq_true rfl) ?_
              refine aw_iinc hX (nI (k + 1)) dX5_bestShiftOf_114 rfl (nI_1 k) ?_
              refine aw_goto hX 23 dX5_bestShiftOf_117 (by decide) ?_
              exact hi
  refine aw_iconst hX (0) dX5_bestShiftOf_0 (by decide) ?_
  refine aw_istore_n hX dX5_bestShiftOf_1 (Nat.le_of_ble_eq_true rfl) ?_
  refine aw_ldc hX kk_X5_54 dX5_bestShiftOf_2 ?_
  refine aw_istore hX dX5_bestShiftOf_4 (Nat.le_of_ble_eq_true rfl) ?_
  refine aw_ldc hX kk_X5_54 dX5_bestShiftOf_6 ?_
  refine aw_istore hX dX5_bestShiftOf_8 (Nat.le_of_ble_eq_true rfl) ?_
  refine aw_getsN hX RX5 rfl (a := 3) (nm := "SHIFTS") (by decide) kn_X5_55 dX5_bestShiftOf_10 ?_
  refine aw_astore hX dX5_bestShiftOf_13 (Nat.le_of_ble_eq_true rfl) ?_
  refine aw_aload hX dX5_bestShiftOf_15 rfl ?_
  refine aw_rolen hX (nI 5) (a := 3) (by decide) rfl dX5_bestShiftOf_17 ?_
  refine aw_istore hX dX5_bestShiftOf_18 (Nat.le_of_ble_eq_true rfl) ?_
  refine aw_iconst hX (0) dX5_bestShiftOf_20 (by decide) ?_
  refine aw_istore hX dX5_bestShiftOf_21 (Nat.le_of_ble_eq_true rfl) ?_
  rw [← hset_self q1]
  exact loop 6 0 f0 _ _ _ (by decide) (by decide)
theorem tX5_drawAs (l : Launch) (E : EV) (n : Nat) (H : HState h p v) (hW : v.1.1 = nI W) (hW40 : W ≤ 40) (hS : WS v.2.2.1) (hm : m < v.2.2.1.2.2.2.2) {a : Nat} (hP : HPaint h a) (ha : a + 3 ≤ p ∨ p + 15 ≤ a) {w : Nat} (hw : w ≤ 1) : MX5_drawAs l E n h [.ref a, .ref p, .int (nI m), .int (nI w)] (fun r h' => r = none ∧ h' = hset h (a + 1) (cI 40 (pF W v.2.2.1 m (if w = 1 then bestF v W m else 0)))) := by
  have e := H
  have hq := hP
  have hb := bestF_in v W m
  obtain ⟨q0, ⟨f0, q1⟩, q2⟩ := hP
  by_cases hw1 : w = 1
  · subst hw1
    rw [if_pos rfl]
    refine AM.intro mf_X5_drawAs (by simp [Value.category]) (Nat.le_of_ble_eq_true rfl) (fun X hl hE hnm hX => ?_)
    subst hl
    subst hE
    show AW X _ _ 0 0 0 [some (.ref a), some (.ref p), some (.int (nI m)), some (.int (nI 1)), none] []
    refine aw_iload_n hX dX5_drawAs_0 rfl ?_
    refine aw_iconst hX (1) dX5_drawAs_1 (by decide) ?_
    refine aw_icmp_ne hX 14 dX5_drawAs_2 (by decide) (fun c_2 => ?_) (fun c_2 => ?_)
    · exact absurd rfl c_2
    · refine aw_aload_n hX dX5_drawAs_5 rfl ?_
      refine aw_aload_n hX dX5_drawAs_6 rfl ?_
      refine aw_iload_n hX dX5_drawAs_7 rfl ?_
      refine aw_callV0 hX RX5 rfl (tX5_bestShiftOf _ _ _ e hW hW40 hS hm hq ha) rfl mf_X5_bestShiftOf mi_X5_bestShiftOf ms_X5_bestShiftOf kl_X5_44 (by assumption) rfl rfl (by decide) (Nat.le_of_ble_eq_true rfl) dX5_drawAs_8 (by decide) (fun v_8 h_8 p_8 => ?_)
      obtain ⟨rfl, f, rfl⟩ := p_8
      have e := e.off (a := a + 1) (cI 40 f) (by omega)
      have q1 := hset_eq h (a + 1) (cI 40 f)
      have q0 : hset h (a + 1) (cI 40 f) a = some (cO 5 [.ref (a + 1), .ref (a + 2)]) := (hset_ne _ _ (by omega)).trans q0
      refine aw_goto hX 15 dX5_drawAs_11 (by decide) ?_
      refine aw_istore hX dX5_drawAs_15 (Nat.le_of_ble_eq_true rfl) ?_
      refine aw_aload_n hX dX5_drawAs_17 rfl ?_
      refine aw_aload_n hX dX5_drawAs_18 rfl ?_
      refine aw_iload_n hX dX5_drawAs_19 rfl ?_
      refine aw_iload hX dX5_drawAs_20 rfl ?_
      refine aw_aload_n hX dX5_drawAs_22 rfl ?_
      refine gt_X5_9 hX dX5_drawAs_23 (by assumption) (by exact rfl) ?_
      refine aw_callV0 hX RX5 rfl (tX5_draw _ _ _ e hW hW40 hS hm hb.1 hb.2 a q1 (by omega)) rfl mf_X5_draw mi_X5_draw ms_X5_draw kl_X5_48 (by assumption) rfl rfl (by decide) (Nat.le_of_ble_eq_true rfl) dX5_drawAs_26 (by decide) (fun v_26 h_26 p_26 => ?_)
      obtain ⟨rfl, rfl⟩ := p_26
      rw [hset_hset]
      exact aw_vret hX rfl rfl rfl rfl dX5_drawAs_29 (by exact ⟨rfl, rfl⟩)
  · have hw0 : w = 0 := by omega
    subst hw0
    rw [if_neg hw1]
    refine AM.intro mf_X5_drawAs (by simp [Value.category]) (Nat.le_of_ble_eq_true rfl) (fun X hl hE hnm hX => ?_)
    subst hl
    subst hE
    show AW X _ _ 0 0 0 [some (.ref a), some (.ref p), some (.int (nI m)), some (.int (nI 0)), none] []
    refine aw_iload_n hX dX5_drawAs_0 rfl ?_
    refine aw_iconst hX (1) dX5_drawAs_1 (by decide) ?_
    refine aw_icmp_ne hX 14 dX5_drawAs_2 (by decide) (fun c_2 => ?_) (fun c_2 => ?_)
    · refine aw_iconst hX (0) dX5_drawAs_14 (by decide) ?_
      refine aw_istore hX dX5_drawAs_15 (Nat.le_of_ble_eq_true rfl) ?_
      refine aw_aload_n hX dX5_drawAs_17 rfl ?_
      refine aw_aload_n hX dX5_drawAs_18 rfl ?_
      refine aw_iload_n hX dX5_drawAs_19 rfl ?_
      refine aw_iload hX dX5_drawAs_20 rfl ?_
      refine aw_aload_n hX dX5_drawAs_22 rfl ?_
      refine gt_X5_9 hX dX5_drawAs_23 (by assumption) (by exact rfl) ?_
      refine aw_callV0 hX RX5 rfl (tX5_draw _ _ _ e hW hW40 hS hm (s := 0) (by decide) (by decide) a q1 (by omega)) rfl mf_X5_draw mi_X5_draw ms_X5_draw kl_X5_48 (by assumption) rfl rfl (by decide) (Nat.le_of_ble_eq_true rfl) dX5_drawAs_26 (by decide) (fun v_26 h_26 p_26 => ?_)
      obtain ⟨rfl, rfl⟩ := p_26
      exact aw_vret hX rfl rfl rfl rfl dX5_drawAs_29 (by exact ⟨rfl, rfl⟩)
    · exact absurd c_2 (by decide)
end BEST
