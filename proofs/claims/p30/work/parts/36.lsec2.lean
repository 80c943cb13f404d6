/-! the law's second, walked -/
theorem LG.sec {g g' : IF} {v v' : PV} {W P o M : Nat} (H : LG g v W P o M) (e1 : v'.2.2 = v.2.2) (x : Int32) (e2 : v'.2.1 = (v.2.1.1, v.2.1.2.1, v.2.1.2.2.1 + x, v.2.1.2.2.2.1 + 1, upd v.2.1.2.2.2.2 (v.2.1.2.2.2.1 % 20) x))
    (f0 : ∀ q, q ≤ 5 → g' q = g q) (f6 : g' 6 = g 6 + x) (f7 : g' 7 = g 7 + 1) (f8 : g' 8 = x) (f9 : ∀ q, 9 ≤ q → q ≤ 27 → g' q = g (q - 1)) : LG g' v' W P o M := by
  obtain ⟨⟨a1, a2, a3, a4⟩, ⟨b1, b2, b3⟩, ⟨c1, c2, c3, c4⟩, d⟩ := H
  refine ⟨⟨(f0 _ (by omega)).trans a1, (f0 _ (by omega)).trans a2, (f0 _ (by omega)).trans a3, (f0 _ (by omega)).trans a4⟩, ⟨by rw [e1]; exact b1, b2, b3⟩, ?_, ?_⟩
  · rw [e2]
    exact ⟨(f0 _ (by omega)).trans c1, (f0 _ (by omega)).trans c2, by rw [f6, c3], by rw [f7, c4, nI_1]⟩
  · rw [e2]
    intro k h1 h2 h3
    replace h3 : k ≤ v.2.1.2.2.2.1 + 1 := h3
    show g' (7 + k) = upd v.2.1.2.2.2.2 (v.2.1.2.2.2.1 % 20) x ((v.2.1.2.2.2.1 + 1 - k) % 20)
    by_cases k1 : k = 1
    · subst k1
      rw [show v.2.1.2.2.2.1 + 1 - 1 = v.2.1.2.2.2.1 by omega, pk_us]
      exact f8
    · rw [pk_un (by omega), f9 (7 + k) (by omega) (by omega), show 7 + k - 1 = 7 + (k - 1) by omega, d (k - 1) (by omega) (by omega) (by omega), show v.2.1.2.2.2.1 - (k - 1) = v.2.1.2.2.2.1 + 1 - k by omega]
section LSEC2
variable {h : HP} {g b lt m : IF} {f : Nat → Int64} {v : PV} {W P o M : Nat}
theorem tL_second (l : Launch) (E : EV) (n : Nat) (hn : 194 ≤ n) (hL : HL h g b f lt m) (H : LD g b f v W P o M) : ML_second l E n h [.ref 189, .ref 190, .ref 191] (fun r h' => r = none ∧ ∃ g' b' f', HL h' g' b' f' lt m ∧ LD g' b' f' (secF v P o) W P o M ∧ Sm 189 (n + 1) h h') := by
  have hV := H.1.1
  have hW := H.1.2.1
  have hBO : BO v := hV.2.2.2.2.2
  obtain ⟨hP, hP2, hP50⟩ := hV.2.2.2.1
  have ho := hV.2.2.2.2.1.2
  have hg1 : g 1 = nI P := H.2.1.1.2.1
  obtain ⟨e0, e1, e2, e3, e4⟩ := id hL
  refine AM.intro mf_L_second (by simp [Value.category]) (Nat.le_of_ble_eq_true rfl) (fun X hl hE hnm hX => ?_)
  subst hl
  subst hE
  show AW X _ _ 0 0 0 [some (.ref 189), some (.ref 190), some (.ref 191), none, none, none, none, none] []
  have fin2 : ∀ (z k : Nat) (gk : IF) (vv : PV) (u : Nat) (hh : HP) (g b : IF) (f : Nat → Int64) (x6 x7 : Option Value), psF (ordF v o) 40 0 v P = (vv, u) → LD g b f vv W P o M → HL hh gk b f lt m → Sm 189 (n + 1) h hh → 8 ≤ k → k ≤ 27 → k < z → (∀ q, q ≤ k → gk q = g q) → (∀ q, k < q → q ≤ 27 → gk q = g (q - 1)) → AW X (n + 1) hh 1 16 165 [some (.ref 189), some (.ref 190), some (.ref 191), some (.int (nI u)), some (.ref n), some (.int (nI k)), x6, x7] [] := by
    intro z
    induction z with
    | zero => intro k gk vv u hh g b f x6 x7 hq R e sm h1 h2 h3; omega
    | succ z ih =>
      intro k gk vv u hh g b f x6 x7 hq R e sm h1 h2 h3 k1 k2
      obtain ⟨e0, e1, e2, e3, e4⟩ := id e
      have kp := (psF_KP (ordF v o) 40 0 v P).1
      rw [hq] at kp
      have hs : secF v P o = (vv.1, (vv.2.1.1, vv.2.1.2.1, vv.2.1.2.2.1 + (nI P - nI u), vv.2.1.2.2.2.1 + 1, upd vv.2.1.2.2.2.2 (vv.2.1.2.2.2.1 % 20) (nI P - nI u)), vv.2.2) := by rw [secF, hq, kp.2.2, kp.2.1]
      have y1 : gk 1 = nI P := (k1 1 (by omega)).trans R.2.1.1.2.1
      refine aw_iload hX dL_second_165 rfl ?_
      refine aw_bipush hX (8) dL_second_167 (by decide) ?_
      refine aw_icmp_le hX 188 dL_second_169 (by decide) (fun c_169 => ?_) (fun c_169 => ?_)
      · have n_169 : k ≤ 8 := (nI_leI (a := k) (b := 8) (by omega) (by omega)).mp c_169
        have hk8 : k = 8 := by omega
        subst hk8
        refine aw_aload_n hX dL_second_188 rfl ?_
        refine aw_bipush hX (8) dL_second_189 (by decide) ?_
        refine aw_aload_n hX dL_second_191 rfl ?_
        refine aw_iconst hX (1) dL_second_192 (by decide) ?_
        refine aw_ialdN hX (1) (by assumption) rfl (by decide) (by first | decide | assumption) dL_second_193 ?_
        rw [y1]
        refine aw_iload_n hX dL_second_194 rfl ?_
        refine aw_isub hX dL_second_195 ?_
        refine aw_iastN hX (8) (by assumption) rfl (by decide) (by first | decide | assumption) dL_second_196 ?_
        have e := e.ug (upd gk 8 (nI P - nI u))
        have sm := sm.set (a := 189) (c := cI 28 (upd gk 8 (nI P - nI u))) (by omega) (by omega)
        generalize hset hh 189 (cI 28 (upd gk 8 (nI P - nI u))) = hk at e sm ⊢
        obtain ⟨e0, e1, e2, e3, e4⟩ := id e
        refine aw_aload_n hX dL_second_197 rfl ?_
        refine aw_bipush hX (6) dL_second_198 (by decide) ?_
        refine aw_dup2 hX dL_second_200 rfl rfl ?_
        refine aw_ialdN hX (6) (by assumption) rfl (by decide) (by first | decide | assumption) dL_second_201 ?_
        rw [show upd gk 8 (nI P - nI u) 6 = gk 6 from pk_un (by omega)]
        refine aw_aload_n hX dL_second_202 rfl ?_
        refine aw_bipush hX (8) dL_second_203 (by decide) ?_
        refine aw_ialdN hX (8) (by assumption) rfl (by decide) (by first | decide | assumption) dL_second_205 ?_
        rw [show upd gk 8 (nI P - nI u) 8 = nI P - nI u from pk_us]
        refine aw_iadd hX dL_second_206 ?_
        refine aw_iastN hX (6) (by assumption) rfl (by decide) (by first | decide | assumption) dL_second_207 ?_
        have e := e.ug (upd (upd gk 8 (nI P - nI u)) 6 (gk 6 + (nI P - nI u)))
        have sm := sm.set (a := 189) (c := cI 28 (upd (upd gk 8 (nI P - nI u)) 6 (gk 6 + (nI P - nI u)))) (by omega) (by omega)
        generalize hset hk 189 (cI 28 (upd (upd gk 8 (nI P - nI u)) 6 (gk 6 + (nI P - nI u)))) = hk at e sm ⊢
        obtain ⟨e0, e1, e2, e3, e4⟩ := id e
        refine aw_aload_n hX dL_second_208 rfl ?_
        refine aw_bipush hX (7) dL_second_209 (by decide) ?_
        refine aw_dup2 hX dL_second_211 rfl rfl ?_
        refine aw_ialdN hX (7) (by assumption) rfl (by decide) (by first | decide | assumption) dL_second_212 ?_
        rw [show upd (upd gk 8 (nI P - nI u)) 6 (gk 6 + (nI P - nI u)) 7 = gk 7 from (pk_un (by omega)).trans (pk_un (by omega))]
        refine aw_iconst hX (1) dL_second_213 (by decide) ?_
        refine aw_iadd hX dL_second_214 ?_
        refine aw_iastN hX (7) (by assumption) rfl (by decide) (by first | decide | assumption) dL_second_215 ?_
        exact aw_vret hX rfl rfl rfl rfl dL_second_216 (by have q1 := secF_VW hV; rw [hs] at q1 ⊢; exact ⟨rfl, _, b, f, e.ug _, ⟨⟨q1, hW, R.1.2.2⟩, R.2.1.sec rfl (nI P - nI u) rfl (fun q h4 => (pk_un (by omega)).trans ((pk_un (by omega)).trans ((pk_un (by omega)).trans (k1 q (by omega))))) ((pk_un (by omega)).trans (pk_us.trans (by rw [k1 6 (by omega)]))) (pk_us.trans (by rw [k1 7 (by omega)])) ((pk_un (by omega)).trans ((pk_un (by omega)).trans pk_us)) (fun q h4 h5 => (pk_un (by omega)).trans ((pk_un (by omega)).trans ((pk_un (by omega)).trans (k2 q (by omega) h5)))), R.2.2.1, R.2.2.2⟩, sm.set (by omega) (by omega)⟩)
      · have n_169 : ¬ k ≤ 8 := fun q_ => c_169 ((nI_leI (a := k) (b := 8) (by omega) (by omega)).mpr q_)
        refine aw_aload_n hX dL_second_172 rfl ?_
        refine aw_iload hX dL_second_173 rfl ?_
        refine aw_aload_n hX dL_second_175 rfl ?_
        refine aw_iload hX dL_second_176 rfl ?_
        refine aw_iconst hX (1) dL_second_178 (by decide) ?_
        refine aw_isub hX dL_second_179 ?_
        rw [show nI k - 1 = nI (k - 1) from pk_sub (b := 1) (by omega)]
        refine aw_ialdN hX (k - 1) (by assumption) rfl (by omega) (by first | decide | assumption) dL_second_180 ?_
        refine aw_iastN hX (k) (by assumption) rfl (by omega) (by first | decide | assumption) dL_second_181 ?_
        refine aw_iinc hX (nI (k - 1)) dL_second_182 rfl (sb_m1 (by omega)) ?_
        refine aw_goto hX 165 dL_second_185 (by decide) ?_
        exact ih (k - 1) (upd gk k (gk (k - 1))) vv u _ g b f _ _ hq R (e.ug _) (sm.set (by omega) (by omega)) (by omega) (by omega) (by omega) (fun q h4 => (pk_un (by omega)).trans (k1 q (by omega))) (fun q h4 h5 => by by_cases e : q = k; (subst e; rw [pk_us]; exact k1 (q - 1) (by omega)); exact (pk_un e).trans (k2 q (by omega) h5))
  have outer : ∀ (mg : IF) (_ : ∀ j, j < W → mg j = bcF (dueP v j)) (t : Nat) (vv : PV) (u : Nat) (hh : HP) (g b : IF) (f : Nat → Int64) (x6 x7 : Option Value), t ≤ 7 → u ≤ 50 → psF (ordF v o) 40 0 v P = psL (stgL v o W t) vv u → (stgL v o W t).Pairwise (· ≠ ·) → (∀ c, c ∈ stgL v o W t → c < W ∧ ¬ dueP v c = 0) → (∀ c, c ∈ stgL v o W t → dueP vv c = dueP v c) → HL hh g b f lt m → LD g b f vv W P o M → hh n = some (cI 16 mg) → Sm 189 (n + 1) h hh → AW X (n + 1) hh 1 16 61 [some (.ref 189), some (.ref 190), some (.ref 191), some (.int (nI u)), some (.ref n), some (.int (nI t)), x6, x7] [] := by
    intro mg hmg t
    induction t with
    | zero =>
      intro vv u hh g b f x6 x7 h1 h2 hq p1 p2 p3 e R he sm
      refine aw_iload hX dL_second_61 rfl ?_
      refine aw_if_le hX 161 dL_second_63 (by decide) (fun c_63 => ?_) (fun c_63 => ?_)
      · refine aw_bipush hX (27) dL_second_161 (by decide) ?_
        refine aw_istore hX dL_second_163 (Nat.le_of_ble_eq_true rfl) ?_
        exact fin2 28 27 g vv u hh g b f _ _ hq R e sm (by decide) (by decide) (by decide) (fun q _ => rfl) (fun q h1 h2 => absurd h2 (by omega))
      · exact absurd (by decide) c_63
    | succ t iht =>
      intro vv u hh g b f x6 x7 h1 h2 hq p1 p2 p3 e R he sm
      have inner : ∀ (z k : Nat) (vv : PV) (u : Nat) (hh : HP) (g b : IF) (f : Nat → Int64) (x7 : Option Value), k ≤ W → W - k < z → u ≤ 50 → psF (ordF v o) 40 0 v P = psL (rowL v o W (t + 1) k ++ stgL v o W t) vv u → (rowL v o W (t + 1) k ++ stgL v o W t).Pairwise (· ≠ ·) → (∀ c, c ∈ rowL v o W (t + 1) k ++ stgL v o W t → c < W ∧ ¬ dueP v c = 0) → (∀ c, c ∈ rowL v o W (t + 1) k ++ stgL v o W t → dueP vv c = dueP v c) → HL hh g b f lt m → LD g b f vv W P o M → hh n = some (cI 16 mg) → Sm 189 (n + 1) h hh → AW X (n + 1) hh 1 16 69 [some (.ref 189), some (.ref 190), some (.ref 191), some (.int (nI u)), some (.ref n), some (.int (nI (t + 1))), some (.int (nI k)), x7] [] := by
        intro z
        induction z with
        | zero => intro k vv u hh g b f x7 k1 k2; omega
        | succ z ih =>
          intro k vv u hh g b f x7 k1 k2 h2 hq p1 p2 p3 e R he sm
          obtain ⟨e0, e1, e2, e3, e4⟩ := id e
          have g0 : g 0 = nI W := R.2.1.1.1
          have g2 : g 2 = nI o := R.2.1.1.2.2.1
          by_cases hk : k < W
          · have hcc : ccF o W k < W := ccF_lt hk
            have hmc := hmg _ hcc
            rw [rowL_in hk] at hq p1 p2 p3
            by_cases q : cnd v o (t + 1) (ccF o W k) = true
            · rw [if_pos q, List.cons_append] at hq p1 p2 p3
              obtain ⟨p4, p5⟩ := List.pairwise_cons.mp p1
              have hd := p2 (ccF o W k) List.mem_cons_self
              have hdv := p3 (ccF o W k) List.mem_cons_self
              have hc2 : o = 2 → bcF (dueP v (ccF o W k)) = nI (t + 1) := fun w => by
                rw [cnd, if_pos w] at q
                exact of_decide_eq_true q
              have hc7 : ¬ o = 2 → t + 1 = 7 := fun w => by
                rw [cnd, if_neg w] at q
                exact of_decide_eq_true (Bool.and_eq_true_iff.mp q).1
              have hpos := (hBO.due (c := ccF o W k) (by omega)).pos hd.2
              refine aw_iload hX dL_second_69 rfl ?_
              refine aw_aload_n hX dL_second_71 rfl ?_
              refine aw_iconst hX (0) dL_second_72 (by decide) ?_
              refine aw_ialdN hX (0) (by assumption) rfl (by decide) (by first | decide | assumption) dL_second_73 ?_
              rw [g0]
              refine aw_icmp_ge hX 155 dL_second_74 (by decide) (fun c_74 => ?_) (fun c_74 => ?_)
              · have n_74 : W ≤ k := (nI_leI (a := W) (b := k) (by omega) (by omega)).mp c_74
                exact absurd n_74 (by omega)
              · have n_74 : ¬ W ≤ k := fun q_ => c_74 ((nI_leI (a := W) (b := k) (by omega) (by omega)).mpr q_)
                refine aw_aload_n hX dL_second_77 rfl ?_
                refine aw_iconst hX (2) dL_second_78 (by decide) ?_
                refine aw_ialdN hX (2) (by assumption) rfl (by decide) (by first | decide | assumption) dL_second_79 ?_
                rw [g2]
                refine aw_iconst hX (1) dL_second_80 (by decide) ?_
                refine aw_icmp_ne hX 95 dL_second_81 (by decide) (fun c_81 => ?_) (fun c_81 => ?_)
                · have n_81 : ¬ o = 1 := fun q_ => c_81 ((nI_eq (a := o) (b := 1) (by omega) (by omega)).mpr q_)
                  refine aw_iload hX dL_second_95 rfl ?_
                  refine AW.top (y := nI (ccF o W k)) (congrArg nI (by first | exact (if_pos n_81).symm | exact (if_neg n_81).symm)) ?_
                  refine aw_istore hX dL_second_97 (Nat.le_of_ble_eq_true rfl) ?_
                  refine aw_aload_n hX dL_second_99 rfl ?_
                  refine aw_iconst hX (2) dL_second_100 (by decide) ?_
                  refine aw_ialdN hX (2) (by assumption) rfl (by decide) (by first | decide | assumption) dL_second_101 ?_
                  rw [g2]
                  refine aw_iconst hX (2) dL_second_102 (by decide) ?_
                  refine aw_icmp_ne hX 119 dL_second_103 (by decide) (fun c_103 => ?_) (fun c_103 => ?_)
                  · have n_103 : ¬ o = 2 := fun q_ => c_103 ((nI_eq (a := o) (b := 2) (by omega) (by omega)).mpr q_)
                    refine aw_iload hX dL_second_119 rfl ?_
                    refine aw_bipush hX (7) dL_second_121 (by decide) ?_
                    refine aw_icmp_ne hX 149 dL_second_123 (by decide) (fun c_123 => ?_) (fun c_123 => ?_)
                    · have n_123 : ¬ t + 1 = 7 := fun q_ => c_123 ((nI_eq (a := t + 1) (b := 7) (by omega) (by omega)).mpr q_)
                      exact absurd (hc7 n_103) n_123
                    · have n_123 : t + 1 = 7 := (nI_eq (a := t + 1) (b := 7) (by omega) (by omega)).mp c_123
                      refine aw_aload hX dL_second_126 rfl ?_
                      refine aw_iload hX dL_second_128 rfl ?_
                      refine aw_ialdN hX (ccF o W k) (by assumption) rfl (by omega) (by first | decide | assumption) dL_second_130 ?_
                      rw [hmc]
                      refine aw_if_le hX 149 dL_second_131 (by decide) (fun c_131 => ?_) (fun c_131 => ?_)
                      · exact absurd c_131 (Int32.not_le.mpr hpos)
                      · refine aw_iload_n hX dL_second_134 rfl ?_
                        refine aw_iconst hX (1) dL_second_135 (by decide) ?_
                        refine aw_icmp_le hX 149 dL_second_136 (by decide) (fun c_136 => ?_) (fun c_136 => ?_)
                        · have n_136 : u ≤ 1 := (nI_leI (a := u) (b := 1) (by omega) (by omega)).mp c_136
                          refine aw_iinc hX (nI (k + 1)) dL_second_149 rfl (nI_1 k) ?_
                          refine aw_goto hX 69 dL_second_152 (by decide) ?_
                          exact ih (k + 1) vv u hh g b f _ (by omega) (by omega) h2 (hq.trans ((psL_low n_136 _ _).trans (psL_low n_136 _ _).symm)) p5 (fun c hc => p2 c (List.mem_cons_of_mem _ hc)) (fun c hc => p3 c (List.mem_cons_of_mem _ hc)) e R he sm
                        · have n_136 : ¬ u ≤ 1 := fun q_ => c_136 ((nI_leI (a := u) (b := 1) (by omega) (by omega)).mpr q_)
                          refine aw_aload_n hX dL_second_139 rfl ?_
                          refine aw_aload_n hX dL_second_140 rfl ?_
                          refine aw_aload_n hX dL_second_141 rfl ?_
                          refine aw_iload hX dL_second_142 rfl ?_
                          refine aw_iload_n hX dL_second_144 rfl ?_
                          refine aw_callS0 hX RL rfl (tL_goes _ _ _ e R hcc (by omega) h2) rfl mf_L_goes mt_L_goes kl_L_21 rfl (by decide) (Nat.le_of_ble_eq_true rfl) dL_second_145 (by decide) (fun v_145 h_145 p_145 => ?_)
                          obtain ⟨rfl, g2', b2', f2', e', R', s2⟩ := p_145
                          refine aw_istore_n hX dL_second_148 (Nat.le_of_ble_eq_true rfl) ?_
                          rw [psL, if_neg n_136, if_neg (fun w => hd.2 (hdv.symm.trans w))] at hq
                          refine aw_iinc hX (nI (k + 1)) dL_second_149 rfl (nI_1 k) ?_
                          refine aw_goto hX 69 dL_second_152 (by decide) ?_
                          exact ih (k + 1) _ _ _ g2' b2' f2' _ (by omega) (by omega) (by have := (fcF_KP (dueP vv (ccF o W k)) (ccF o W k) 7 0 vv (u - 1)).2; omega) hq p5 (fun c hc => p2 c (List.mem_cons_of_mem _ hc)) (fun c hc => (fcF_due _ (fun w => p4 c hc w.symm) 7 0 vv (u - 1)).trans (p3 c (List.mem_cons_of_mem _ hc))) e' R' ((s2.at (by omega)).trans he) (sm.tr s2 (by omega) (by omega))
                  · have n_103 : o = 2 := (nI_eq (a := o) (b := 2) (by omega) (by omega)).mp c_103
                    refine aw_aload hX dL_second_106 rfl ?_
                    refine aw_iload hX dL_second_108 rfl ?_
                    refine aw_ialdN hX (ccF o W k) (by assumption) rfl (by omega) (by first | decide | assumption) dL_second_110 ?_
                    rw [hmc]
                    refine aw_iload hX dL_second_111 rfl ?_
                    refine aw_icmp_ne hX 149 dL_second_113 (by decide) (fun c_113 => ?_) (fun c_113 => ?_)
                    · exact absurd (hc2 n_103) c_113
                    · refine aw_goto hX 134 dL_second_116 (by decide) ?_
                      refine aw_iload_n hX dL_second_134 rfl ?_
                      refine aw_iconst hX (1) dL_second_135 (by decide) ?_
                      refine aw_icmp_le hX 149 dL_second_136 (by decide) (fun c_136 => ?_) (fun c_136 => ?_)
                      · have n_136 : u ≤ 1 := (nI_leI (a := u) (b := 1) (by omega) (by omega)).mp c_136
                        refine aw_iinc hX (nI (k + 1)) dL_second_149 rfl (nI_1 k) ?_
                        refine aw_goto hX 69 dL_second_152 (by decide) ?_
                        exact ih (k + 1) vv u hh g b f _ (by omega) (by omega) h2 (hq.trans ((psL_low n_136 _ _).trans (psL_low n_136 _ _).symm)) p5 (fun c hc => p2 c (List.mem_cons_of_mem _ hc)) (fun c hc => p3 c (List.mem_cons_of_mem _ hc)) e R he sm
                      · have n_136 : ¬ u ≤ 1 := fun q_ => c_136 ((nI_leI (a := u) (b := 1) (by omega) (by omega)).mpr q_)
                        refine aw_aload_n hX dL_second_139 rfl ?_
                        refine aw_aload_n hX dL_second_140 rfl ?_
                        refine aw_aload_n hX dL_second_141 rfl ?_
                        refine aw_iload hX dL_second_142 rfl ?_
                        refine aw_iload_n hX dL_second_144 rfl ?_
                        refine aw_callS0 hX RL rfl (tL_goes _ _ _ e R hcc (by omega) h2) rfl mf_L_goes mt_L_goes kl_L_21 rfl (by decide) (Nat.le_of_ble_eq_true rfl) dL_second_145 (by decide) (fun v_145 h_145 p_145 => ?_)
                        obtain ⟨rfl, g2', b2', f2', e', R', s2⟩ := p_145
                        refine aw_istore_n hX dL_second_148 (Nat.le_of_ble_eq_true rfl) ?_
                        rw [psL, if_neg n_136, if_neg (fun w => hd.2 (hdv.symm.trans w))] at hq
                        refine aw_iinc hX (nI (k + 1)) dL_second_149 rfl (nI_1 k) ?_
                        refine aw_goto hX 69 dL_second_152 (by decide) ?_
                        exact ih (k + 1) _ _ _ g2' b2' f2' _ (by omega) (by omega) (by have := (fcF_KP (dueP vv (ccF o W k)) (ccF o W k) 7 0 vv (u - 1)).2; omega) hq p5 (fun c hc => p2 c (List.mem_cons_of_mem _ hc)) (fun c hc => (fcF_due _ (fun w => p4 c hc w.symm) 7 0 vv (u - 1)).trans (p3 c (List.mem_cons_of_mem _ hc))) e' R' ((s2.at (by omega)).trans he) (sm.tr s2 (by omega) (by omega))
                · have n_81 : o = 1 := (nI_eq (a := o) (b := 1) (by omega) (by omega)).mp c_81
                  refine aw_aload_n hX dL_second_84 rfl ?_
                  refine aw_iconst hX (0) dL_second_85 (by decide) ?_
                  refine aw_ialdN hX (0) (by assumption) rfl (by decide) (by first | decide | assumption) dL_second_86 ?_
                  rw [g0]
                  refine aw_iconst hX (1) dL_second_87 (by decide) ?_
                  refine aw_isub hX dL_second_88 ?_
                  rw [show nI W - 1 = nI (W - 1) from pk_sub (b := 1) (by omega)]
                  refine aw_iload hX dL_second_89 rfl ?_
                  refine aw_isub hX dL_second_91 ?_
                  rw [show nI (W - 1) - nI k = nI (W - 1 - k) from pk_sub (by omega)]
                  refine aw_goto hX 97 dL_second_92 (by decide) ?_
                  refine AW.top (y := nI (ccF o W k)) (congrArg nI (by first | exact (if_pos n_81).symm | exact (if_neg n_81).symm)) ?_
                  refine aw_istore hX dL_second_97 (Nat.le_of_ble_eq_true rfl) ?_
                  refine aw_aload_n hX dL_second_99 rfl ?_
                  refine aw_iconst hX (2) dL_second_100 (by decide) ?_
                  refine aw_ialdN hX (2) (by assumption) rfl (by decide) (by first | decide | assumption) dL_second_101 ?_
                  rw [g2]
                  refine aw_iconst hX (2) dL_second_102 (by decide) ?_
                  refine aw_icmp_ne hX 119 dL_second_103 (by decide) (fun c_103 => ?_) (fun c_103 => ?_)
                  · have n_103 : ¬ o = 2 := fun q_ => c_103 ((nI_eq (a := o) (b := 2) (by omega) (by omega)).mpr q_)
                    refine aw_iload hX dL_second_119 rfl ?_
                    refine aw_bipush hX (7) dL_second_121 (by decide) ?_
                    refine aw_icmp_ne hX 149 dL_second_123 (by decide) (fun c_123 => ?_) (fun c_123 => ?_)
                    · have n_123 : ¬ t + 1 = 7 := fun q_ => c_123 ((nI_eq (a := t + 1) (b := 7) (by omega) (by omega)).mpr q_)
                      exact absurd (hc7 n_103) n_123
                    · have n_123 : t + 1 = 7 := (nI_eq (a := t + 1) (b := 7) (by omega) (by omega)).mp c_123
                      refine aw_aload hX dL_second_126 rfl ?_
                      refine aw_iload hX dL_second_128 rfl ?_
                      refine aw_ialdN hX (ccF o W k) (by assumption) rfl (by omega) (by first | decide | assumption) dL_second_130 ?_
                      rw [hmc]
                      refine aw_if_le hX 149 dL_second_131 (by decide) (fun c_131 => ?_) (fun c_131 => ?_)
                      · exact absurd c_131 (Int32.not_le.mpr hpos)
                      · refine aw_iload_n hX dL_second_134 rfl ?_
                        refine aw_iconst hX (1) dL_second_135 (by decide) ?_
                        refine aw_icmp_le hX 149 dL_second_136 (by decide) (fun c_136 => ?_) (fun c_136 => ?_)
                        · have n_136 : u ≤ 1 := (nI_leI (a := u) (b := 1) (by omega) (by omega)).mp c_136
                          refine aw_iinc hX (nI (k + 1)) dL_second_149 rfl (nI_1 k) ?_
                          refine aw_goto hX 69 dL_second_152 (by decide) ?_
                          exact ih (k + 1) vv u hh g b f _ (by omega) (by omega) h2 (hq.trans ((psL_low n_136 _ _).trans (psL_low n_136 _ _).symm)) p5 (fun c hc => p2 c (List.mem_cons_of_mem _ hc)) (fun c hc => p3 c (List.mem_cons_of_mem _ hc)) e R he sm
                        · have n_136 : ¬ u ≤ 1 := fun q_ => c_136 ((nI_leI (a := u) (b := 1) (by omega) (by omega)).mpr q_)
                          refine aw_aload_n hX dL_second_139 rfl ?_
                          refine aw_aload_n hX dL_second_140 rfl ?_
                          refine aw_aload_n hX dL_second_141 rfl ?_
                          refine aw_iload hX dL_second_142 rfl ?_
                          refine aw_iload_n hX dL_second_144 rfl ?_
                          refine aw_callS0 hX RL rfl (tL_goes _ _ _ e R hcc (by omega) h2) rfl mf_L_goes mt_L_goes kl_L_21 rfl (by decide) (Nat.le_of_ble_eq_true rfl) dL_second_145 (by decide) (fun v_145 h_145 p_145 => ?_)
                          obtain ⟨rfl, g2', b2', f2', e', R', s2⟩ := p_145
                          refine aw_istore_n hX dL_second_148 (Nat.le_of_ble_eq_true rfl) ?_
                          rw [psL, if_neg n_136, if_neg (fun w => hd.2 (hdv.symm.trans w))] at hq
                          refine aw_iinc hX (nI (k + 1)) dL_second_149 rfl (nI_1 k) ?_
                          refine aw_goto hX 69 dL_second_152 (by decide) ?_
                          exact ih (k + 1) _ _ _ g2' b2' f2' _ (by omega) (by omega) (by have := (fcF_KP (dueP vv (ccF o W k)) (ccF o W k) 7 0 vv (u - 1)).2; omega) hq p5 (fun c hc => p2 c (List.mem_cons_of_mem _ hc)) (fun c hc => (fcF_due _ (fun w => p4 c hc w.symm) 7 0 vv (u - 1)).trans (p3 c (List.mem_cons_of_mem _ hc))) e' R' ((s2.at (by omega)).trans he) (sm.tr s2 (by omega) (by omega))
                  · have n_103 : o = 2 := (nI_eq (a := o) (b := 2) (by omega) (by omega)).mp c_103
                    refine aw_aload hX dL_second_106 rfl ?_
                    refine aw_iload hX dL_second_108 rfl ?_
                    refine aw_ialdN hX (ccF o W k) (by assumption) rfl (by omega) (by first | decide | assumption) dL_second_110 ?_
                    rw [hmc]
                    refine aw_iload hX dL_second_111 rfl ?_
                    refine aw_icmp_ne hX 149 dL_second_113 (by decide) (fun c_113 => ?_) (fun c_113 => ?_)
                    · exact absurd (hc2 n_103) c_113
                    · refine aw_goto hX 134 dL_second_116 (by decide) ?_
                      refine aw_iload_n hX dL_second_134 rfl ?_
                      refine aw_iconst hX (1) dL_second_135 (by decide) ?_
                      refine aw_icmp_le hX 149 dL_second_136 (by decide) (fun c_136 => ?_) (fun c_136 => ?_)
                      · have n_136 : u ≤ 1 := (nI_leI (a := u) (b := 1) (by omega) (by omega)).mp c_136
                        refine aw_iinc hX (nI (k + 1)) dL_second_149 rfl (nI_1 k) ?_
                        refine aw_goto hX 69 dL_second_152 (by decide) ?_
                        exact ih (k + 1) vv u hh g b f _ (by omega) (by omega) h2 (hq.trans ((psL_low n_136 _ _).trans (psL_low n_136 _ _).symm)) p5 (fun c hc => p2 c (List.mem_cons_of_mem _ hc)) (fun c hc => p3 c (List.mem_cons_of_mem _ hc)) e R he sm
                      · have n_136 : ¬ u ≤ 1 := fun q_ => c_136 ((nI_leI (a := u) (b := 1) (by omega) (by omega)).mpr q_)
                        refine aw_aload_n hX dL_second_139 rfl ?_
                        refine aw_aload_n hX dL_second_140 rfl ?_
                        refine aw_aload_n hX dL_second_141 rfl ?_
                        refine aw_iload hX dL_second_142 rfl ?_
                        refine aw_iload_n hX dL_second_144 rfl ?_
                        refine aw_callS0 hX RL rfl (tL_goes _ _ _ e R hcc (by omega) h2) rfl mf_L_goes mt_L_goes kl_L_21 rfl (by decide) (Nat.le_of_ble_eq_true rfl) dL_second_145 (by decide) (fun v_145 h_145 p_145 => ?_)
                        obtain ⟨rfl, g2', b2', f2', e', R', s2⟩ := p_145
                        refine aw_istore_n hX dL_second_148 (Nat.le_of_ble_eq_true rfl) ?_
                        rw [psL, if_neg n_136, if_neg (fun w => hd.2 (hdv.symm.trans w))] at hq
                        refine aw_iinc hX (nI (k + 1)) dL_second_149 rfl (nI_1 k) ?_
                        refine aw_goto hX 69 dL_second_152 (by decide) ?_
                        exact ih (k + 1) _ _ _ g2' b2' f2' _ (by omega) (by omega) (by have := (fcF_KP (dueP vv (ccF o W k)) (ccF o W k) 7 0 vv (u - 1)).2; omega) hq p5 (fun c hc => p2 c (List.mem_cons_of_mem _ hc)) (fun c hc => (fcF_due _ (fun w => p4 c hc w.symm) 7 0 vv (u - 1)).trans (p3 c (List.mem_cons_of_mem _ hc))) e' R' ((s2.at (by omega)).trans he) (sm.tr s2 (by omega) (by omega))
            · rw [if_neg q] at hq p1 p2 p3
              have skip : ∀ (x7 : Option Value), AW X (n + 1) hh 1 16 149 [some (.ref 189), some (.ref 190), some (.ref 191), some (.int (nI u)), some (.ref n), some (.int (nI (t + 1))), some (.int (nI k)), x7] [] := by
                intro x7
                refine aw_iinc hX (nI (k + 1)) dL_second_149 rfl (nI_1 k) ?_
                refine aw_goto hX 69 dL_second_152 (by decide) ?_
                exact ih (k + 1) vv u hh g b f _ (by omega) (by omega) h2 hq p1 p2 p3 e R he sm
              refine aw_iload hX dL_second_69 rfl ?_
              refine aw_aload_n hX dL_second_71 rfl ?_
              refine aw_iconst hX (0) dL_second_72 (by decide) ?_
              refine aw_ialdN hX (0) (by assumption) rfl (by decide) (by first | decide | assumption) dL_second_73 ?_
              rw [g0]
              refine aw_icmp_ge hX 155 dL_second_74 (by decide) (fun c_74 => ?_) (fun c_74 => ?_)
              · have n_74 : W ≤ k := (nI_leI (a := W) (b := k) (by omega) (by omega)).mp c_74
                exact absurd n_74 (by omega)
              · have n_74 : ¬ W ≤ k := fun q_ => c_74 ((nI_leI (a := W) (b := k) (by omega) (by omega)).mpr q_)
                refine aw_aload_n hX dL_second_77 rfl ?_
                refine aw_iconst hX (2) dL_second_78 (by decide) ?_
                refine aw_ialdN hX (2) (by assumption) rfl (by decide) (by first | decide | assumption) dL_second_79 ?_
                rw [g2]
                refine aw_iconst hX (1) dL_second_80 (by decide) ?_
                refine aw_icmp_ne hX 95 dL_second_81 (by decide) (fun c_81 => ?_) (fun c_81 => ?_)
                · have n_81 : ¬ o = 1 := fun q_ => c_81 ((nI_eq (a := o) (b := 1) (by omega) (by omega)).mpr q_)
                  refine aw_iload hX dL_second_95 rfl ?_
                  refine AW.top (y := nI (ccF o W k)) (congrArg nI (by first | exact (if_pos n_81).symm | exact (if_neg n_81).symm)) ?_
                  refine aw_istore hX dL_second_97 (Nat.le_of_ble_eq_true rfl) ?_
                  refine aw_aload_n hX dL_second_99 rfl ?_
                  refine aw_iconst hX (2) dL_second_100 (by decide) ?_
                  refine aw_ialdN hX (2) (by assumption) rfl (by decide) (by first | decide | assumption) dL_second_101 ?_
                  rw [g2]
                  refine aw_iconst hX (2) dL_second_102 (by decide) ?_
                  refine aw_icmp_ne hX 119 dL_second_103 (by decide) (fun c_103 => ?_) (fun c_103 => ?_)
                  · have n_103 : ¬ o = 2 := fun q_ => c_103 ((nI_eq (a := o) (b := 2) (by omega) (by omega)).mpr q_)
                    refine aw_iload hX dL_second_119 rfl ?_
                    refine aw_bipush hX (7) dL_second_121 (by decide) ?_
                    refine aw_icmp_ne hX 149 dL_second_123 (by decide) (fun c_123 => ?_) (fun c_123 => ?_)
                    · have n_123 : ¬ t + 1 = 7 := fun q_ => c_123 ((nI_eq (a := t + 1) (b := 7) (by omega) (by omega)).mpr q_)
                      exact skip _
                    · have n_123 : t + 1 = 7 := (nI_eq (a := t + 1) (b := 7) (by omega) (by omega)).mp c_123
                      refine aw_aload hX dL_second_126 rfl ?_
                      refine aw_iload hX dL_second_128 rfl ?_
                      refine aw_ialdN hX (ccF o W k) (by assumption) rfl (by omega) (by first | decide | assumption) dL_second_130 ?_
                      rw [hmc]
                      refine aw_if_le hX 149 dL_second_131 (by decide) (fun c_131 => ?_) (fun c_131 => ?_)
                      · exact skip _
                      · exact absurd (by rw [cnd, if_neg n_103, n_123]; exact decide_eq_true (fun w => c_131 (by rw [w, bcF_z]; decide))) q
                  · have n_103 : o = 2 := (nI_eq (a := o) (b := 2) (by omega) (by omega)).mp c_103
                    refine aw_aload hX dL_second_106 rfl ?_
                    refine aw_iload hX dL_second_108 rfl ?_
                    refine aw_ialdN hX (ccF o W k) (by assumption) rfl (by omega) (by first | decide | assumption) dL_second_110 ?_
                    rw [hmc]
                    refine aw_iload hX dL_second_111 rfl ?_
                    refine aw_icmp_ne hX 149 dL_second_113 (by decide) (fun c_113 => ?_) (fun c_113 => ?_)
                    · exact skip _
                    · exact absurd (by rw [cnd, if_pos n_103]; exact decide_eq_true c_113) q
                · have n_81 : o = 1 := (nI_eq (a := o) (b := 1) (by omega) (by omega)).mp c_81
                  refine aw_aload_n hX dL_second_84 rfl ?_
                  refine aw_iconst hX (0) dL_second_85 (by decide) ?_
                  refine aw_ialdN hX (0) (by assumption) rfl (by decide) (by first | decide | assumption) dL_second_86 ?_
                  rw [g0]
                  refine aw_iconst hX (1) dL_second_87 (by decide) ?_
                  refine aw_isub hX dL_second_88 ?_
                  rw [show nI W - 1 = nI (W - 1) from pk_sub (b := 1) (by omega)]
                  refine aw_iload hX dL_second_89 rfl ?_
                  refine aw_isub hX dL_second_91 ?_
                  rw [show nI (W - 1) - nI k = nI (W - 1 - k) from pk_sub (by omega)]
                  refine aw_goto hX 97 dL_second_92 (by decide) ?_
                  refine AW.top (y := nI (ccF o W k)) (congrArg nI (by first | exact (if_pos n_81).symm | exact (if_neg n_81).symm)) ?_
                  refine aw_istore hX dL_second_97 (Nat.le_of_ble_eq_true rfl) ?_
                  refine aw_aload_n hX dL_second_99 rfl ?_
                  refine aw_iconst hX (2) dL_second_100 (by decide) ?_
                  refine aw_ialdN hX (2) (by assumption) rfl (by decide) (by first | decide | assumption) dL_second_101 ?_
                  rw [g2]
                  refine aw_iconst hX (2) dL_second_102 (by decide) ?_
                  refine aw_icmp_ne hX 119 dL_second_103 (by decide) (fun c_103 => ?_) (fun c_103 => ?_)
                  · have n_103 : ¬ o = 2 := fun q_ => c_103 ((nI_eq (a := o) (b := 2) (by omega) (by omega)).mpr q_)
                    refine aw_iload hX dL_second_119 rfl ?_
                    refine aw_bipush hX (7) dL_second_121 (by decide) ?_
                    refine aw_icmp_ne hX 149 dL_second_123 (by decide) (fun c_123 => ?_) (fun c_123 => ?_)
                    · have n_123 : ¬ t + 1 = 7 := fun q_ => c_123 ((nI_eq (a := t + 1) (b := 7) (by omega) (by omega)).mpr q_)
                      exact skip _
                    · have n_123 : t + 1 = 7 := (nI_eq (a := t + 1) (b := 7) (by omega) (by omega)).mp c_123
                      refine aw_aload hX dL_second_126 rfl ?_
                      refine aw_iload hX dL_second_128 rfl ?_
                      refine aw_ialdN hX (ccF o W k) (by assumption) rfl (by omega) (by first | decide | assumption) dL_second_130 ?_
                      rw [hmc]
                      refine aw_if_le hX 149 dL_second_131 (by decide) (fun c_131 => ?_) (fun c_131 => ?_)
                      · exact skip _
                      · exact absurd (by rw [cnd, if_neg n_103, n_123]; exact decide_eq_true (fun w => c_131 (by rw [w, bcF_z]; decide))) q
                  · have n_103 : o = 2 := (nI_eq (a := o) (b := 2) (by omega) (by omega)).mp c_103
                    refine aw_aload hX dL_second_106 rfl ?_
                    refine aw_iload hX dL_second_108 rfl ?_
                    refine aw_ialdN hX (ccF o W k) (by assumption) rfl (by omega) (by first | decide | assumption) dL_second_110 ?_
                    rw [hmc]
                    refine aw_iload hX dL_second_111 rfl ?_
                    refine aw_icmp_ne hX 149 dL_second_113 (by decide) (fun c_113 => ?_) (fun c_113 => ?_)
                    · exact skip _
                    · exact absurd (by rw [cnd, if_pos n_103]; exact decide_eq_true c_113) q
          · have hkW : k = W := by omega
            subst hkW
            rw [rowL_out (Nat.le_refl k), List.nil_append] at hq p1 p2 p3
            refine aw_iload hX dL_second_69 rfl ?_
            refine aw_aload_n hX dL_second_71 rfl ?_
            refine aw_iconst hX (0) dL_second_72 (by decide) ?_
            refine aw_ialdN hX (0) (by assumption) rfl (by decide) (by first | decide | assumption) dL_second_73 ?_
            rw [g0]
            refine aw_icmp_ge hX 155 dL_second_74 (by decide) (fun c_74 => ?_) (fun c_74 => ?_)
            · refine aw_iinc hX (nI t) dL_second_155 rfl (pk_m1 t) ?_
              refine aw_goto hX 61 dL_second_158 (by decide) ?_
              exact iht vv u hh g b f _ _ (by omega) h2 hq p1 p2 p3 e R he sm
            · exact absurd (Int32.le_refl _) c_74
      refine aw_iload hX dL_second_61 rfl ?_
      refine aw_if_le hX 161 dL_second_63 (by decide) (fun c_63 => ?_) (fun c_63 => ?_)
      · have n_63 : t + 1 ≤ 0 := (nI_leI (a := t + 1) (b := 0) (by omega) (by omega)).mp c_63
        exact absurd n_63 (by omega)
      · have n_63 : ¬ t + 1 ≤ 0 := fun q_ => c_63 ((nI_leI (a := t + 1) (b := 0) (by omega) (by omega)).mpr q_)
        refine aw_iconst hX (0) dL_second_66 (by decide) ?_
        refine aw_istore hX dL_second_67 (Nat.le_of_ble_eq_true rfl) ?_
        exact inner (W + 1) 0 vv u hh g b f _ (Nat.zero_le _) (by omega) h2 hq p1 p2 p3 e R he sm
  have ph1 : ∀ (z k : Nat) (mg : IF), k ≤ W → W - k < z → (∀ j, j < k → mg j = bcF (dueP v j)) → AW X (n + 1) (hset h n (cI 16 mg)) 1 16 13 [some (.ref 189), some (.ref 190), some (.ref 191), some (.int (nI P)), some (.ref n), some (.int (nI k)), none, none] [] := by
    intro z
    induction z with
    | zero => intro k mg h1 h2; omega
    | succ z ih =>
      intro k mg h1 h2 h3
      have e := hL.off (a := n) (cI 16 mg) (by omega)
      have he := hset_eq h n (cI 16 mg)
      obtain ⟨e0, e1, e2, e3, e4⟩ := id e
      refine aw_iload hX dL_second_13 rfl ?_
      refine aw_aload_n hX dL_second_15 rfl ?_
      refine aw_iconst hX (0) dL_second_16 (by decide) ?_
      refine aw_ialdN hX (0) (by assumption) rfl (by decide) (by first | decide | assumption) dL_second_17 ?_
      rw [show g 0 = nI W from H.2.1.1.1]
      refine aw_icmp_ge hX 57 dL_second_18 (by decide) (fun c_18 => ?_) (fun c_18 => ?_)
      · have n_18 : W ≤ k := (nI_leI (a := W) (b := k) (by omega) (by omega)).mp c_18
        refine aw_bipush hX (7) dL_second_57 (by decide) ?_
        refine aw_istore hX dL_second_59 (Nat.le_of_ble_eq_true rfl) ?_
        have hk : k = W := by omega
        subst hk
        obtain ⟨i1, i2, i3⟩ := full_ex hBO hV.1 (by omega) ho P
        exact outer mg h3 7 v P _ g b f _ _ (by decide) hP50 i1 i2 i3 (fun c _ => rfl) e H he (Sm.rf.set (by omega) (by omega))
      · have n_18 : ¬ W ≤ k := fun q_ => c_18 ((nI_leI (a := W) (b := k) (by omega) (by omega)).mpr q_)
        refine aw_aload hX dL_second_21 rfl ?_
        refine aw_iload hX dL_second_23 rfl ?_
        refine aw_aload_n hX dL_second_25 rfl ?_
        refine aw_iload hX dL_second_26 rfl ?_
        refine aw_ialdN hX (k) (by assumption) rfl (by omega) (by first | decide | assumption) dL_second_28 ?_
        refine aw_aload_n hX dL_second_29 rfl ?_
        refine aw_bipush hX (16) dL_second_30 (by decide) ?_
        refine aw_iload hX dL_second_32 rfl ?_
        refine aw_iadd hX dL_second_34 ?_
        refine aw_ialdN hX (16 + k) (by assumption) (ix16 k) (by omega) (by first | decide | assumption) dL_second_35 ?_
        refine aw_ixor hX dL_second_36 ?_
        refine aw_aload_n hX dL_second_37 rfl ?_
        refine aw_bipush hX (48) dL_second_38 (by decide) ?_
        refine aw_iload hX dL_second_40 rfl ?_
        refine aw_iadd hX dL_second_42 ?_
        refine aw_ialdN hX (48 + k) (by assumption) (ix48 k) (by omega) (by first | decide | assumption) dL_second_43 ?_
        refine aw_iconst hX (-1) dL_second_44 (by decide) ?_
        refine aw_ixor hX dL_second_45 ?_
        refine aw_iand hX dL_second_46 ?_
        rw [H.due (by omega)]
        refine aw_callSp hX RL rfl (tL_bits _ _ _ _ (hBO.due (c := k) (by omega))) rfl mf_L_bits mt_L_bits kl_L_15 rfl (by decide) (Nat.le_of_ble_eq_true rfl) dL_second_47 (by decide) ?_
        refine aw_iastN hX (k) (by assumption) rfl (by omega) (by first | decide | assumption) dL_second_50 ?_
        rw [hset_hset]
        refine aw_iinc hX (nI (k + 1)) dL_second_51 rfl (nI_1 k) ?_
        refine aw_goto hX 13 dL_second_54 (by decide) ?_
        exact ih (k + 1) _ (by omega) (by omega) (upd_lo2 (f := fun j => bcF (dueP v j)) h3)
  refine aw_aload_n hX dL_second_0 rfl ?_
  refine aw_iconst hX (1) dL_second_1 (by decide) ?_
  refine aw_ialdN hX (1) (by assumption) rfl (by decide) (by first | decide | assumption) dL_second_2 ?_
  rw [hg1]
  refine aw_istore_n hX dL_second_3 (Nat.le_of_ble_eq_true rfl) ?_
  refine aw_bipush hX (16) dL_second_4 (by decide) ?_
  refine aw_newarr hX 16 k_arr.1 (by decide) (by decide) (by decide) (by decide) (by decide) dL_second_6 ?_
  refine aw_astore hX dL_second_8 (Nat.le_of_ble_eq_true rfl) ?_
  refine aw_iconst hX (0) dL_second_10 (by decide) ?_
  refine aw_istore hX dL_second_11 (Nat.le_of_ble_eq_true rfl) ?_
  exact ph1 (W + 1) 0 (fun _ => 0) (Nat.zero_le _) (by omega) (fun j hj => absurd hj (Nat.not_lt_zero j))
end LSEC2
