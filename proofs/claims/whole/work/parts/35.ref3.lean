/-! the reference: the best shift, what is asked and changes nothing -/
theorem bo_odd : ∀ k, k < 5 → nI k - nI k / 2 * 2 = 1 → (-(nI k + 1)) / 2 = iI (SH k) := by decide
theorem bo_even : ∀ k, k < 5 → ¬ nI k - nI k / 2 * 2 = 1 → nI k / 2 = iI (SH k) := by decide
theorem sumI_le {f : Nat → Int32} : ∀ n, (∀ c, c < n → ∃ j, j ≤ 7 ∧ f c = nI j) → ∃ j, j ≤ 7 * n ∧ sumI f n = nI j
  | 0, _ => ⟨0, Nat.le_refl _, rfl⟩
  | n + 1, h => by
    obtain ⟨a, h1, h2⟩ := sumI_le n (fun c hc => h c (by omega))
    obtain ⟨b, h3, h4⟩ := h n (by omega)
    refine ⟨a + b, by omega, ?_⟩
    show sumI f n + f n = _
    rw [h2, h4, nI_add]
section REF3
variable {h : HP} {y : Nat} {s : IF} {ps ty sp om : Nat} {v : PV} {W : Nat}
theorem ag_le (hB : BO v) {p : IF} (hp : ∀ c, B7 (p c)) : ∃ j, j ≤ 280 ∧ agF v p = nI j :=
  sumI_le 40 (fun c hc => ((((hp c).xor (hB c hc).1)).and _).bc)
theorem df_le (hB : BO v) {p o : IF} (hp : ∀ c, B7 (p c)) (ho : ∀ c, B7 (o c)) : ∃ j, j ≤ 280 ∧ dfF v p o = nI j :=
  sumI_le 40 (fun c hc => ((((hp c).xor (ho c))).and _).bc)
theorem df_comm (p o : IF) : dfF v p o = dfF v o p := sumI_ext 40 (fun c _ => by rw [i_xor_comm])
theorem tX10_differs1 (l : Launch) (E : EV) (n : Nat) (H : HN h y s ps ty sp om) (R : RS s v W) (hB : BO v) (hD : ZW v W) {t : Nat} {p : IF} (ht : h t = some (cI 40 p)) (hp : ∀ c, B7 (p c)) (hZ : ∀ c, W ≤ c → p c = 0) : MX10_differs l E n h [.ref y, .ref (y + 1), .int 9, .ref t, .int 1] (PR (.int (agF v p)) h) := by
  have hx := tX10_differs l E n H R hB H.2 (b := 9) (q := v.1.2.1) (by decide) (by decide) (fun c hc => ⟨(R.2.2.2.2.1 c hc).1, (hB c hc).1⟩) ht (fun c _ => hp c) (fun c h1 h2 => ⟨(hD c h1 h2).1, hZ c h1⟩) true
  have hs : sumI (fun c => bcF ((v.1.2.1 c ^^^ p c) &&& (if true then v.1.2.2.2.2.1 c else v.1.2.2.2.2.1 c ^^^ (-1)))) 40 = agF v p := sumI_ext 40 (fun c _ => by rw [i_xor_comm]; rfl)
  rw [hs] at hx
  exact hx
theorem tX10_differs0 (l : Launch) (E : EV) (n : Nat) (H : HN h y s ps ty sp om) (R : RS s v W) (hB : BO v) (hD : ZW v W) {t : Nat} {p : IF} (ht : h t = some (cI 40 p)) (hp : ∀ c, B7 (p c)) (hZ : ∀ c, W ≤ c → p c = 0) : MX10_differs l E n h [.ref y, .ref (y + 1), .int 9, .ref t, .int 0] (PR (.int (dfF v p v.1.2.1)) h) := by
  have hx := tX10_differs l E n H R hB H.2 (b := 9) (q := v.1.2.1) (by decide) (by decide) (fun c hc => ⟨(R.2.2.2.2.1 c hc).1, (hB c hc).1⟩) ht (fun c _ => hp c) (fun c h1 h2 => ⟨(hD c h1 h2).1, hZ c h1⟩) false
  have hs : sumI (fun c => bcF ((v.1.2.1 c ^^^ p c) &&& (if false = true then v.1.2.2.2.2.1 c else v.1.2.2.2.2.1 c ^^^ (-1)))) 40 = dfF v p v.1.2.1 := sumI_ext 40 (fun c _ => by rw [i_xor_comm]; rfl)
  rw [hs] at hx
  exact hx
theorem tX10_bestOf (l : Launch) (E : EV) (n : Nat) (H : HN h y s ps ty sp om) (R : RS s v W) (hS : WS v.2.2.1) (hSB : SB v.2.2.1) (hB : BO v) (hD : ZW v W) {m : Nat} (hm : m < v.2.2.1.2.2.2.2) {f0 : IF} (hp : h (y + 6) = some (cI 40 f0)) : MX10_bestOf l E n h [.ref y, .int (nI m)] (fun r h' => r = some (.int (iI (bestF v W m))) ∧ ∃ f, h' = hset h (y + 6) (cI 40 f)) := by
  have e := H
  obtain ⟨e0, e1⟩ := H
  refine AM.intro mf_X10_bestOf (by simp [Value.category]) (Nat.le_of_ble_eq_true rfl) (fun X hl hE hnm hX => ?_)
  subst hl
  subst hE
  show AW X _ _ 0 0 0 [some (.ref y), some (.int (nI m)), none, none, none, none, none, none, none] []
  have loop : ∀ (g k : Nat) (f : IF) (b w d : Int32) (x x2 x3 : Option Value), k ≤ 5 → 5 - k < g → (¬ k = 0 → b = iI (bsF v W m k).1 ∧ w = (bsF v W m k).2.1 ∧ d = (bsF v W m k).2.2) → AW X n (hset h (y + 6) (cI 40 f)) 0 0 10 [some (.ref y), some (.int (nI m)), some (.int b), some (.int w), some (.int d), some (.int (nI k)), x, x2, x3] [] := by
    intro g
    induction g with
    | zero => intro k f b w d x x2 x3 h1 h2; omega
    | succ g ih =>
      intro k f b w d x x2 x3 h1 h2 h3
      have e' := e.off (a := y + 6) (cI 40 f) (by omega)
      have eb := hset_eq h (y + 6) (cI 40 f)
      obtain ⟨e0, e1⟩ := id e'
      refine aw_iload hX dX10_bestOf_10 rfl ?_
      refine aw_iconst hX (5) dX10_bestOf_12 (by decide) ?_
      refine aw_icmp_ge hX 125 dX10_bestOf_13 (by decide) (fun c_13 => ?_) (fun c_13 => ?_)
      · have n_13 : 5 ≤ k := (nI_leI (a := 5) (b := k) (by omega) (by omega)).mp c_13
        have hk : k = 5 := by omega
        subst hk
        obtain ⟨h4, -, -⟩ := h3 (by decide)
        refine aw_iload_n hX dX10_bestOf_125 rfl ?_
        exact aw_iret hX rfl rfl rfl rfl dX10_bestOf_126 (by exact ⟨by rw [h4]; rfl, f, rfl⟩)
      · have n_13 : ¬ 5 ≤ k := fun q => c_13 ((nI_leI (a := 5) (b := k) (by omega) (by omega)).mpr q)
        have hk : k < 5 := by omega
        have hsh := SH_in hk
        refine aw_iload hX dX10_bestOf_16 rfl ?_
        refine aw_iconst hX (2) dX10_bestOf_18 (by decide) ?_
        refine aw_irem hX dX10_bestOf_19 (by decide) ?_
        refine aw_iconst hX (1) dX10_bestOf_20 (by decide) ?_
        refine aw_icmp_ne hX 34 dX10_bestOf_21 (by decide) (fun c_21 => ?_) (fun c_21 => ?_)
        · refine aw_iload hX dX10_bestOf_34 rfl ?_
          refine aw_iconst hX (2) dX10_bestOf_36 (by decide) ?_
          refine aw_idiv hX dX10_bestOf_37 (by decide) ?_
          refine AW.top (y := iI (SH k)) (bo_even k hk c_21) ?_
          refine aw_istore hX dX10_bestOf_38 (Nat.le_of_ble_eq_true rfl) ?_
          refine aw_aload_n hX dX10_bestOf_40 rfl ?_
          refine aw_iload_n hX dX10_bestOf_41 rfl ?_
          refine aw_iload hX dX10_bestOf_42 rfl ?_
          refine aw_aload_n hX dX10_bestOf_44 rfl ?_
          refine gt_X10_25 hX dX10_bestOf_45 (by assumption) (by exact rfl) ?_
          refine aw_callV0 hX RX10 rfl (tX10_lays _ _ _ e' R hS hm hsh.1 hsh.2 eb (by omega)) rfl mf_X10_lays mi_X10_lays ms_X10_lays kl_X10_75 (by assumption) rfl rfl (by decide) (Nat.le_of_ble_eq_true rfl) dX10_bestOf_48 (by decide) (fun v_48 h_48 p_48 => ?_)
          obtain ⟨rfl, rfl⟩ := p_48
          rw [hset_hset]
          clear e' eb e0 e1
          have e' := e.off (a := y + 6) (cI 40 (pF W v.2.2.1 m (SH k))) (by omega)
          have eb := hset_eq h (y + 6) (cI 40 (pF W v.2.2.1 m (SH k)))
          obtain ⟨e0, e1⟩ := id e'
          have h7 : ∀ c, B7 (pF W v.2.2.1 m (SH k) c) := fun c => pF_B7 hSB _ _ _ c
          have take : bsF v W m (k + 1) = (SH k, agF v (pF W v.2.2.1 m (SH k)), dfF v (pF W v.2.2.1 m (SH k)) v.1.2.1) → AW X n (hset h (y + 6) (cI 40 (pF W v.2.2.1 m (SH k)))) 0 0 109 [some (.ref y), some (.int (nI m)), some (.int b), some (.int w), some (.int d), some (.int (nI k)), some (.int (iI (SH k))), some (.int (agF v (pF W v.2.2.1 m (SH k)))), some (.int (dfF v (pF W v.2.2.1 m (SH k)) v.1.2.1))] [] := fun hc => by refine aw_iload hX dX10_bestOf_109 rfl ?_; refine aw_istore_n hX dX10_bestOf_111 (Nat.le_of_ble_eq_true rfl) ?_; refine aw_iload hX dX10_bestOf_112 rfl ?_; refine aw_istore_n hX dX10_bestOf_114 (Nat.le_of_ble_eq_true rfl) ?_; refine aw_iload hX dX10_bestOf_115 rfl ?_; refine aw_istore hX dX10_bestOf_117 (Nat.le_of_ble_eq_true rfl) ?_; refine aw_iinc hX (nI (k + 1)) dX10_bestOf_119 rfl (nI_1 k) ?_; refine aw_goto hX 10 dX10_bestOf_122 (by decide) ?_; exact ih (k + 1) (pF W v.2.2.1 m (SH k)) _ _ _ _ _ _ hk (by omega) (fun _ => by rw [hc]; exact ⟨rfl, rfl, rfl⟩)
          have keep : ¬ k = 0 → bsF v W m (k + 1) = bsF v W m k → AW X n (hset h (y + 6) (cI 40 (pF W v.2.2.1 m (SH k)))) 0 0 119 [some (.ref y), some (.int (nI m)), some (.int b), some (.int w), some (.int d), some (.int (nI k)), some (.int (iI (SH k))), some (.int (agF v (pF W v.2.2.1 m (SH k)))), some (.int (dfF v (pF W v.2.2.1 m (SH k)) v.1.2.1))] [] := fun hk0 hc => by refine aw_iinc hX (nI (k + 1)) dX10_bestOf_119 rfl (nI_1 k) ?_; refine aw_goto hX 10 dX10_bestOf_122 (by decide) ?_; exact ih (k + 1) (pF W v.2.2.1 m (SH k)) b w d _ _ _ hk (by omega) (fun _ => by rw [hc]; exact h3 hk0)
          refine aw_aload_n hX dX10_bestOf_51 rfl ?_
          refine aw_aload_n hX dX10_bestOf_52 rfl ?_
          refine gt_X10_7 hX dX10_bestOf_53 (by assumption) (by exact rfl) ?_
          refine aw_bipush hX (9) dX10_bestOf_56 (by decide) ?_
          refine aw_aload_n hX dX10_bestOf_58 rfl ?_
          refine gt_X10_25 hX dX10_bestOf_59 (by assumption) (by exact rfl) ?_
          refine aw_iconst hX (1) dX10_bestOf_62 (by decide) ?_
          refine aw_callVp hX RX10 rfl (tX10_differs1 _ _ _ e' R hB hD eb h7 (fun c hc => pF_out hc)) rfl mf_X10_differs mi_X10_differs ms_X10_differs kl_X10_79 (by assumption) rfl rfl (by decide) (Nat.le_of_ble_eq_true rfl) dX10_bestOf_63 (by decide) ?_
          refine aw_istore hX dX10_bestOf_66 (Nat.le_of_ble_eq_true rfl) ?_
          refine aw_aload_n hX dX10_bestOf_68 rfl ?_
          refine aw_aload_n hX dX10_bestOf_69 rfl ?_
          refine gt_X10_7 hX dX10_bestOf_70 (by assumption) (by exact rfl) ?_
          refine aw_bipush hX (9) dX10_bestOf_73 (by decide) ?_
          refine aw_aload_n hX dX10_bestOf_75 rfl ?_
          refine gt_X10_25 hX dX10_bestOf_76 (by assumption) (by exact rfl) ?_
          refine aw_iconst hX (0) dX10_bestOf_79 (by decide) ?_
          refine aw_callVp hX RX10 rfl (tX10_differs0 _ _ _ e' R hB hD eb h7 (fun c hc => pF_out hc)) rfl mf_X10_differs mi_X10_differs ms_X10_differs kl_X10_79 (by assumption) rfl rfl (by decide) (Nat.le_of_ble_eq_true rfl) dX10_bestOf_80 (by decide) ?_
          refine aw_istore hX dX10_bestOf_83 (Nat.le_of_ble_eq_true rfl) ?_
          refine aw_iload hX dX10_bestOf_85 rfl ?_
          refine aw_if_eq hX 109 dX10_bestOf_87 (by decide) (fun c_87 => ?_) (fun c_87 => ?_)
          · have hk0 : k = 0 := (nI_eq (a := k) (b := 0) (by omega) (by decide)).mp c_87
            exact take (by rw [bsF]; refine if_pos (Or.inl ?_); obtain ⟨j, hj, ej⟩ := ag_le hB h7; rw [ej, hk0]; exact (nI_ltI (a := j) (b := 2147483647) (by omega) (by decide)).mpr (by omega))
          · have hk0 : ¬ k = 0 := fun q => c_87 (by rw [q]; rfl)
            obtain ⟨h4, h5, h6⟩ := h3 hk0
            refine aw_iload hX dX10_bestOf_90 rfl ?_
            refine aw_iload_n hX dX10_bestOf_92 rfl ?_
            refine aw_icmp_lt hX 109 dX10_bestOf_93 (by decide) (fun c_93 => ?_) (fun c_93 => ?_)
            · exact take (by rw [bsF]; exact if_pos (Or.inl (by rw [← h5]; exact c_93)))
            · refine aw_iload hX dX10_bestOf_96 rfl ?_
              refine aw_iload_n hX dX10_bestOf_98 rfl ?_
              refine aw_icmp_ne hX 119 dX10_bestOf_99 (by decide) (fun c_99 => ?_) (fun c_99 => ?_)
              · exact keep hk0 (by rw [bsF]; exact if_neg (fun q => q.elim (fun q => c_93 (by rw [h5]; exact q)) (fun q => c_99 (by rw [h5]; exact q.1))))
              · refine aw_iload hX dX10_bestOf_102 rfl ?_
                refine aw_iload hX dX10_bestOf_104 rfl ?_
                refine aw_icmp_ge hX 119 dX10_bestOf_106 (by decide) (fun c_106 => ?_) (fun c_106 => ?_)
                · exact keep hk0 (by rw [bsF]; exact if_neg (fun q => q.elim (fun q => c_93 (by rw [h5]; exact q)) (fun q => Int32.not_le.mpr q.2 (by rw [← h6]; exact c_106))))
                · exact take (by rw [bsF]; exact if_pos (Or.inr ⟨by rw [← h5]; exact c_99, by rw [← h6]; exact Int32.not_le.mp c_106⟩))
        · refine aw_iload hX dX10_bestOf_24 rfl ?_
          refine aw_iconst hX (1) dX10_bestOf_26 (by decide) ?_
          refine aw_iadd hX dX10_bestOf_27 ?_
          refine aw_ineg hX dX10_bestOf_28 ?_
          refine aw_iconst hX (2) dX10_bestOf_29 (by decide) ?_
          refine aw_idiv hX dX10_bestOf_30 (by decide) ?_
          refine AW.top (y := iI (SH k)) (bo_odd k hk c_21) ?_
          refine aw_goto hX 38 dX10_bestOf_31 (by decide) ?_
          refine aw_istore hX dX10_bestOf_38 (Nat.le_of_ble_eq_true rfl) ?_
          refine aw_aload_n hX dX10_bestOf_40 rfl ?_
          refine aw_iload_n hX dX10_bestOf_41 rfl ?_
          refine aw_iload hX dX10_bestOf_42 rfl ?_
          refine aw_aload_n hX dX10_bestOf_44 rfl ?_
          refine gt_X10_25 hX dX10_bestOf_45 (by assumption) (by exact rfl) ?_
          refine aw_callV0 hX RX10 rfl (tX10_lays _ _ _ e' R hS hm hsh.1 hsh.2 eb (by omega)) rfl mf_X10_lays mi_X10_lays ms_X10_lays kl_X10_75 (by assumption) rfl rfl (by decide) (Nat.le_of_ble_eq_true rfl) dX10_bestOf_48 (by decide) (fun v_48 h_48 p_48 => ?_)
          obtain ⟨rfl, rfl⟩ := p_48
          rw [hset_hset]
          clear e' eb e0 e1
          have e' := e.off (a := y + 6) (cI 40 (pF W v.2.2.1 m (SH k))) (by omega)
          have eb := hset_eq h (y + 6) (cI 40 (pF W v.2.2.1 m (SH k)))
          obtain ⟨e0, e1⟩ := id e'
          have h7 : ∀ c, B7 (pF W v.2.2.1 m (SH k) c) := fun c => pF_B7 hSB _ _ _ c
          have take : bsF v W m (k + 1) = (SH k, agF v (pF W v.2.2.1 m (SH k)), dfF v (pF W v.2.2.1 m (SH k)) v.1.2.1) → AW X n (hset h (y + 6) (cI 40 (pF W v.2.2.1 m (SH k)))) 0 0 109 [some (.ref y), some (.int (nI m)), some (.int b), some (.int w), some (.int d), some (.int (nI k)), some (.int (iI (SH k))), some (.int (agF v (pF W v.2.2.1 m (SH k)))), some (.int (dfF v (pF W v.2.2.1 m (SH k)) v.1.2.1))] [] := fun hc => by refine aw_iload hX dX10_bestOf_109 rfl ?_; refine aw_istore_n hX dX10_bestOf_111 (Nat.le_of_ble_eq_true rfl) ?_; refine aw_iload hX dX10_bestOf_112 rfl ?_; refine aw_istore_n hX dX10_bestOf_114 (Nat.le_of_ble_eq_true rfl) ?_; refine aw_iload hX dX10_bestOf_115 rfl ?_; refine aw_istore hX dX10_bestOf_117 (Nat.le_of_ble_eq_true rfl) ?_; refine aw_iinc hX (nI (k + 1)) dX10_bestOf_119 rfl (nI_1 k) ?_; refine aw_goto hX 10 dX10_bestOf_122 (by decide) ?_; exact ih (k + 1) (pF W v.2.2.1 m (SH k)) _ _ _ _ _ _ hk (by omega) (fun _ => by rw [hc]; exact ⟨rfl, rfl, rfl⟩)
          have keep : ¬ k = 0 → bsF v W m (k + 1) = bsF v W m k → AW X n (hset h (y + 6) (cI 40 (pF W v.2.2.1 m (SH k)))) 0 0 119 [some (.ref y), some (.int (nI m)), some (.int b), some (.int w), some (.int d), some (.int (nI k)), some (.int (iI (SH k))), some (.int (agF v (pF W v.2.2.1 m (SH k)))), some (.int (dfF v (pF W v.2.2.1 m (SH k)) v.1.2.1))] [] := fun hk0 hc => by refine aw_iinc hX (nI (k + 1)) dX10_bestOf_119 rfl (nI_1 k) ?_; refine aw_goto hX 10 dX10_bestOf_122 (by decide) ?_; exact ih (k + 1) (pF W v.2.2.1 m (SH k)) b w d _ _ _ hk (by omega) (fun _ => by rw [hc]; exact h3 hk0)
          refine aw_aload_n hX dX10_bestOf_51 rfl ?_
          refine aw_aload_n hX dX10_bestOf_52 rfl ?_
          refine gt_X10_7 hX dX10_bestOf_53 (by assumption) (by exact rfl) ?_
          refine aw_bipush hX (9) dX10_bestOf_56 (by decide) ?_
          refine aw_aload_n hX dX10_bestOf_58 rfl ?_
          refine gt_X10_25 hX dX10_bestOf_59 (by assumption) (by exact rfl) ?_
          refine aw_iconst hX (1) dX10_bestOf_62 (by decide) ?_
          refine aw_callVp hX RX10 rfl (tX10_differs1 _ _ _ e' R hB hD eb h7 (fun c hc => pF_out hc)) rfl mf_X10_differs mi_X10_differs ms_X10_differs kl_X10_79 (by assumption) rfl rfl (by decide) (Nat.le_of_ble_eq_true rfl) dX10_bestOf_63 (by decide) ?_
          refine aw_istore hX dX10_bestOf_66 (Nat.le_of_ble_eq_true rfl) ?_
          refine aw_aload_n hX dX10_bestOf_68 rfl ?_
          refine aw_aload_n hX dX10_bestOf_69 rfl ?_
          refine gt_X10_7 hX dX10_bestOf_70 (by assumption) (by exact rfl) ?_
          refine aw_bipush hX (9) dX10_bestOf_73 (by decide) ?_
          refine aw_aload_n hX dX10_bestOf_75 rfl ?_
          refine gt_X10_25 hX dX10_bestOf_76 (by assumption) (by exact rfl) ?_
          refine aw_iconst hX (0) dX10_bestOf_79 (by decide) ?_
          refine aw_callVp hX RX10 rfl (tX10_differs0 _ _ _ e' R hB hD eb h7 (fun c hc => pF_out hc)) rfl mf_X10_differs mi_X10_differs ms_X10_differs kl_X10_79 (by assumption) rfl rfl (by decide) (Nat.le_of_ble_eq_true rfl) dX10_bestOf_80 (by decide) ?_
          refine aw_istore hX dX10_bestOf_83 (Nat.le_of_ble_eq_true rfl) ?_
          refine aw_iload hX dX10_bestOf_85 rfl ?_
          refine aw_if_eq hX 109 dX10_bestOf_87 (by decide) (fun c_87 => ?_) (fun c_87 => ?_)
          · have hk0 : k = 0 := (nI_eq (a := k) (b := 0) (by omega) (by decide)).mp c_87
            exact take (by rw [bsF]; refine if_pos (Or.inl ?_); obtain ⟨j, hj, ej⟩ := ag_le hB h7; rw [ej, hk0]; exact (nI_ltI (a := j) (b := 2147483647) (by omega) (by decide)).mpr (by omega))
          · have hk0 : ¬ k = 0 := fun q => c_87 (by rw [q]; rfl)
            obtain ⟨h4, h5, h6⟩ := h3 hk0
            refine aw_iload hX dX10_bestOf_90 rfl ?_
            refine aw_iload_n hX dX10_bestOf_92 rfl ?_
            refine aw_icmp_lt hX 109 dX10_bestOf_93 (by decide) (fun c_93 => ?_) (fun c_93 => ?_)
            · exact take (by rw [bsF]; exact if_pos (Or.inl (by rw [← h5]; exact c_93)))
            · refine aw_iload hX dX10_bestOf_96 rfl ?_
              refine aw_iload_n hX dX10_bestOf_98 rfl ?_
              refine aw_icmp_ne hX 119 dX10_bestOf_99 (by decide) (fun c_99 => ?_) (fun c_99 => ?_)
              · exact keep hk0 (by rw [bsF]; exact if_neg (fun q => q.elim (fun q => c_93 (by rw [h5]; exact q)) (fun q => c_99 (by rw [h5]; exact q.1))))
              · refine aw_iload hX dX10_bestOf_102 rfl ?_
                refine aw_iload hX dX10_bestOf_104 rfl ?_
                refine aw_icmp_ge hX 119 dX10_bestOf_106 (by decide) (fun c_106 => ?_) (fun c_106 => ?_)
                · exact keep hk0 (by rw [bsF]; exact if_neg (fun q => q.elim (fun q => c_93 (by rw [h5]; exact q)) (fun q => Int32.not_le.mpr q.2 (by rw [← h6]; exact c_106))))
                · exact take (by rw [bsF]; exact if_pos (Or.inr ⟨by rw [← h5]; exact c_99, by rw [← h6]; exact Int32.not_le.mp c_106⟩))
  refine aw_iconst hX (0) dX10_bestOf_0 (by decide) ?_
  refine aw_istore_n hX dX10_bestOf_1 (Nat.le_of_ble_eq_true rfl) ?_
  refine aw_iconst hX (0) dX10_bestOf_2 (by decide) ?_
  refine aw_istore_n hX dX10_bestOf_3 (Nat.le_of_ble_eq_true rfl) ?_
  refine aw_iconst hX (0) dX10_bestOf_4 (by decide) ?_
  refine aw_istore hX dX10_bestOf_5 (Nat.le_of_ble_eq_true rfl) ?_
  refine aw_iconst hX (0) dX10_bestOf_7 (by decide) ?_
  refine aw_istore hX dX10_bestOf_8 (Nat.le_of_ble_eq_true rfl) ?_
  rw [← hset_self hp]
  exact loop 6 0 f0 0 0 0 _ _ _ (by decide) (by decide) (fun q => absurd rfl q)
end REF3
