/-! the reference: a second -/
def AG2 (y : Nat) (h h' : HP) : Prop := ∀ q, ¬ q = y + 1 → ¬ q = y + 8 → h' q = h q
theorem AG2.set {y : Nat} {h h' : HP} (H : AG2 y h h') (a : Nat) (c : AC) (ha : a = y + 1 ∨ a = y + 8) : AG2 y h (hset h' a c) := fun q h1 h2 => (hset_ne _ _ (by omega)).trans (H q h1 h2)
theorem ix_p {k : Nat} (h : 1 ≤ k) : (709 : Int32) + nI k - 1 = nI (709 + k - 1) := by
  rw [show (709 : Int32) = nI 709 from rfl, nI_add]
  exact pk_sub (b := 1) (by omega)
theorem RS.sec {s s' : IF} {v : PV} {W : Nat} (H : RS s v W) (hv : WS v.2.2.1) (x : Int32) (e : ∀ k, ¬ k = 7 → ¬ k = 8 → k < 709 → s' k = s k) (e7 : s' 7 = v.2.1.2.2.1 + x) (e8 : s' 8 = nI (v.2.1.2.2.2.1 + 1)) (f0 : s' 709 = x) (f : ∀ k, 1 ≤ k → k < 20 → s' (709 + k) = s (709 + k - 1)) : RS s' (v.1, (v.2.1.1, v.2.1.2.1, v.2.1.2.2.1 + x, v.2.1.2.2.2.1 + 1, upd v.2.1.2.2.2.2 (v.2.1.2.2.2.1 % 20) x), v.2.2) W := by
  obtain ⟨⟨r1, r1a⟩, r2, r3, ⟨r4, r5, r6, r7⟩, r8, r9, r10, r11, r12⟩ := H
  refine ⟨⟨(e _ (by omega) (by omega) (by omega)).trans r1, r1a⟩, fun k hk => (e _ (by omega) (by omega) (by omega)).trans (r2 k hk), (e _ (by omega) (by omega) (by omega)).trans r3, ⟨(e _ (by omega) (by omega) (by omega)).trans r4, (e _ (by omega) (by omega) (by omega)).trans r5, e7, e8⟩, fun c hc => ?_, fun c r hc hr => (e _ (by omega) (by omega) (by omega)).trans (r9 c r hc hr), fun l hl => ?_, fun m hm => ?_, fun k hk hT => ?_⟩
  · obtain ⟨q1, q2, q3, q4⟩ := r8 c hc
    exact ⟨(e _ (by omega) (by omega) (by omega)).trans q1, (e _ (by omega) (by omega) (by omega)).trans q2, (e _ (by omega) (by omega) (by omega)).trans q3, (e _ (by omega) (by omega) (by omega)).trans q4⟩
  · obtain ⟨q1, q2⟩ := r10 l hl
    have h5 := hv.2.1 l hl
    exact ⟨(e _ (by omega) (by omega) (by omega)).trans q1, fun i hi => (e _ (by have hi' : i < v.2.2.1.2.1 l := hi; omega) (by have hi' : i < v.2.2.1.2.1 l := hi; omega) (by have hi' : i < v.2.2.1.2.1 l := hi; omega)).trans (q2 i hi)⟩
  · obtain ⟨q1, q2⟩ := r11 m hm
    have h8 := hv.1
    have hm' : m < v.2.2.1.2.2.2.2 := hm
    have h12 := (hv.2.2 m hm).2.1
    exact ⟨(e _ (by omega) (by omega) (by omega)).trans q1, fun i hi => (e _ (by have hi' : i < v.2.2.1.2.2.2.1 m := hi; omega) (by have hi' : i < v.2.2.1.2.2.2.1 m := hi; omega) (by have hi' : i < v.2.2.1.2.2.2.1 m := hi; omega)).trans (q2 i hi)⟩
  · have hT' : k < v.2.1.2.2.2.1 + 1 := hT
    show s' (709 + k) = upd v.2.1.2.2.2.2 (v.2.1.2.2.2.1 % 20) x ((v.2.1.2.2.2.1 + 1 - 1 - k) % 20)
    by_cases k0 : k = 0
    · subst k0
      rw [show v.2.1.2.2.2.1 + 1 - 1 - 0 = v.2.1.2.2.2.1 by omega]
      exact f0.trans pk_us.symm
    · have q := r12 (k - 1) (by omega) (by omega)
      rw [show v.2.1.2.2.2.1 - 1 - (k - 1) = v.2.1.2.2.2.1 + 1 - 1 - k by omega, show 709 + (k - 1) = 709 + k - 1 by omega] at q
      exact (f k (by omega) hk).trans (q.trans (pk_un (by omega)).symm)
section REF13
variable {h : HP} {y : Nat} {s : IF} {v : PV} {W P o ps ty sp om : Nat}
theorem RI.due (R : RI s v W P o) {c : Nat} (hc : c < W) : (s (9 + c) ^^^ s (49 + c)) &&& (s (129 + c) ^^^ (-1)) = dueP v c := by
  have hW4 := R.1.1.2.2.2
  obtain ⟨z1, z2, z3, z4⟩ := R.1.2.2.2.2.1 c (by omega)
  rw [z1, z2, z4, i_xor_comm, dueP, if_pos (by rw [R.1.1.2.1]; exact (nI_ltI (by omega) (by omega)).mpr hc)]
theorem tX10_nextColumn (l : Launch) (E : EV) (n : Nat) (H : HN h y s ps ty sp om) (R : RI s v W P o) {bg : IF} (hb : h (y + 8) = some (cI 40 bg)) {g : Nat} (hg : g < W) : MX10_nextColumn l E n h [.ref y, .int (nI g)] (PR (.int (nI (nxF o W g bg))) h) := by
  obtain ⟨e0, e1⟩ := id H
  have z0 : s 0 = nI W := R.1.1.1
  have hW4 : W ≤ 40 := R.1.1.2.2.2
  have z2 : s 2 = nI o := (R.1.2.1 1 (by decide)).trans R.2.1.2.2.2.2.1.1
  have ho := R.2.1.2.2.2.2.1.2
  refine AM.intro mf_X10_nextColumn (by simp [Value.category]) (Nat.le_of_ble_eq_true rfl) (fun X hl hE hnm hX => ?_)
  subst hl
  subst hE
  show AW X _ _ 0 0 0 [some (.ref y), some (.int (nI g)), none, none] []
  have loop : ∀ (z k : Nat), ¬ o = 0 → ¬ o = 1 → k < W → W - k < z → AW X n h 0 0 38 [some (.ref y), some (.int (nI g)), some (.int (nI (amF bg k))), some (.int (nI (k + 1)))] [] := by
    intro z
    induction z with
    | zero => intro k q1 q2 h1 h2; omega
    | succ z ih =>
      intro k q1 q2 h1 h2
      have hm := (amF_max bg k).1
      refine aw_iload_n hX dX10_nextColumn_38 rfl ?_
      refine aw_aload_n hX dX10_nextColumn_39 rfl ?_
      refine gt_X10_7 hX dX10_nextColumn_40 (by assumption) (by exact rfl) ?_
      refine aw_iconst hX (0) dX10_nextColumn_43 (by decide) ?_
      refine aw_ialdN hX (0) (by assumption) rfl (by decide) (by first | decide | assumption) dX10_nextColumn_44 ?_
      rw [z0]
      refine aw_icmp_ge hX 75 dX10_nextColumn_45 (by decide) (fun c_45 => ?_) (fun c_45 => ?_)
      · have n_45 : W ≤ k + 1 := (nI_leI (a := W) (b := k + 1) (by omega) (by omega)).mp c_45
        have hk : k = W - 1 := by omega
        refine aw_iload_n hX dX10_nextColumn_75 rfl ?_
        exact aw_iret hX rfl rfl rfl rfl dX10_nextColumn_76 (by exact ⟨by rw [nxF, if_neg q1, if_neg q2, hk], rfl⟩)
      · have n_45 : ¬ W ≤ k + 1 := fun q => c_45 ((nI_leI (a := W) (b := k + 1) (by omega) (by omega)).mpr q)
        refine aw_aload_n hX dX10_nextColumn_48 rfl ?_
        refine gt_X10_31 hX dX10_nextColumn_49 (by assumption) (by exact rfl) ?_
        refine aw_iload_n hX dX10_nextColumn_52 rfl ?_
        refine aw_ialdN hX (k + 1) (by assumption) rfl (by omega) (by first | decide | assumption) dX10_nextColumn_53 ?_
        refine aw_aload_n hX dX10_nextColumn_54 rfl ?_
        refine gt_X10_31 hX dX10_nextColumn_55 (by assumption) (by exact rfl) ?_
        refine aw_iload_n hX dX10_nextColumn_58 rfl ?_
        refine aw_ialdN hX (amF bg k) (by assumption) rfl (by omega) (by first | decide | assumption) dX10_nextColumn_59 ?_
        refine aw_icmp_le hX 67 dX10_nextColumn_60 (by decide) (fun c_60 => ?_) (fun c_60 => ?_)
        · have hc : amF bg (k + 1) = amF bg k := by rw [amF, if_neg (Int32.not_lt.mpr c_60)]
          refine aw_iload_n hX dX10_nextColumn_67 rfl ?_
          refine aw_istore_n hX dX10_nextColumn_68 (Nat.le_of_ble_eq_true rfl) ?_
          refine aw_iinc hX (nI (k + 1 + 1)) dX10_nextColumn_69 rfl (nI_1 (k + 1)) ?_
          refine aw_goto hX 38 dX10_nextColumn_72 (by decide) ?_
          have hi := ih (k + 1) q1 q2 (by omega) (by omega)
          rw [hc] at hi
          exact hi
        · have hc : amF bg (k + 1) = k + 1 := by rw [amF, if_pos (Int32.not_le.mp c_60)]
          refine aw_iload_n hX dX10_nextColumn_63 rfl ?_
          refine aw_goto hX 68 dX10_nextColumn_64 (by decide) ?_
          refine aw_istore_n hX dX10_nextColumn_68 (Nat.le_of_ble_eq_true rfl) ?_
          refine aw_iinc hX (nI (k + 1 + 1)) dX10_nextColumn_69 rfl (nI_1 (k + 1)) ?_
          refine aw_goto hX 38 dX10_nextColumn_72 (by decide) ?_
          have hi := ih (k + 1) q1 q2 (by omega) (by omega)
          rw [hc] at hi
          exact hi
  refine aw_aload_n hX dX10_nextColumn_0 rfl ?_
  refine gt_X10_7 hX dX10_nextColumn_1 (by assumption) (by exact rfl) ?_
  refine aw_iconst hX (2) dX10_nextColumn_4 (by decide) ?_
  refine aw_ialdN hX (2) (by assumption) rfl (by decide) (by first | decide | assumption) dX10_nextColumn_5 ?_
  rw [z2]
  refine aw_iconst hX (2) dX10_nextColumn_6 (by decide) ?_
  refine aw_icmp_ge hX 34 dX10_nextColumn_7 (by decide) (fun c_7 => ?_) (fun c_7 => ?_)
  · have n_7 : 2 ≤ o := (nI_leI (a := 2) (b := o) (by omega) (by omega)).mp c_7
    refine aw_iconst hX (0) dX10_nextColumn_34 (by decide) ?_
    refine aw_istore_n hX dX10_nextColumn_35 (Nat.le_of_ble_eq_true rfl) ?_
    refine aw_iconst hX (1) dX10_nextColumn_36 (by decide) ?_
    refine aw_istore_n hX dX10_nextColumn_37 (Nat.le_of_ble_eq_true rfl) ?_
    exact loop (W + 1) 0 (by omega) (by omega) (by omega) (by omega)
  · have n_7 : ¬ 2 ≤ o := fun q => c_7 ((nI_leI (a := 2) (b := o) (by omega) (by omega)).mpr q)
    refine aw_aload_n hX dX10_nextColumn_10 rfl ?_
    refine gt_X10_7 hX dX10_nextColumn_11 (by assumption) (by exact rfl) ?_
    refine aw_iconst hX (2) dX10_nextColumn_14 (by decide) ?_
    refine aw_ialdN hX (2) (by assumption) rfl (by decide) (by first | decide | assumption) dX10_nextColumn_15 ?_
    rw [z2]
    refine aw_if_ne hX 23 dX10_nextColumn_16 (by decide) (fun c_16 => ?_) (fun c_16 => ?_)
    · have n_16 : ¬ o = 0 := fun q => c_16 ((nI_eq (a := o) (b := 0) (by omega) (by omega)).mpr q)
      refine aw_aload_n hX dX10_nextColumn_23 rfl ?_
      refine gt_X10_7 hX dX10_nextColumn_24 (by assumption) (by exact rfl) ?_
      refine aw_iconst hX (0) dX10_nextColumn_27 (by decide) ?_
      refine aw_ialdN hX (0) (by assumption) rfl (by decide) (by first | decide | assumption) dX10_nextColumn_28 ?_
      rw [z0]
      refine aw_iconst hX (1) dX10_nextColumn_29 (by decide) ?_
      refine aw_isub hX dX10_nextColumn_30 ?_
      rw [show nI W - 1 = nI (W - 1) from pk_sub (b := 1) (by omega)]
      refine aw_iload_n hX dX10_nextColumn_31 rfl ?_
      refine aw_isub hX dX10_nextColumn_32 ?_
      rw [show nI (W - 1) - nI g = nI (W - 1 - g) from pk_sub (by omega)]
      exact aw_iret hX rfl rfl rfl rfl dX10_nextColumn_33 (by first | exact ⟨by rw [nxF, if_pos (by omega)], rfl⟩ | exact ⟨by rw [nxF, if_neg (by omega), if_pos (by omega)], rfl⟩)
    · have n_16 : o = 0 := (nI_eq (a := o) (b := 0) (by omega) (by omega)).mp c_16
      refine aw_iload_n hX dX10_nextColumn_19 rfl ?_
      refine aw_goto hX 33 dX10_nextColumn_20 (by decide) ?_
      exact aw_iret hX rfl rfl rfl rfl dX10_nextColumn_33 (by first | exact ⟨by rw [nxF, if_pos (by omega)], rfl⟩ | exact ⟨by rw [nxF, if_neg (by omega), if_pos (by omega)], rfl⟩)
theorem tX10_second (l : Launch) (E : EV) (n : Nat) (H : HN h y s ps ty sp om) (R : RI s v W P o) {f0 : IF} (hb : h (y + 8) = some (cI 40 f0)) : MX10_second l E n h [.ref y] (fun r h' => r = none ∧ ∃ s', HN h' y s' ps ty sp om ∧ RI s' (secF v P o) W P o ∧ (∃ f, h' (y + 8) = some (cI 40 f)) ∧ AG2 y h h') := by
  have hW4 : W ≤ 40 := R.1.1.2.2.2
  have hBO := R.2.1.2.2.2.2.2
  obtain ⟨hP, hP2, hP50⟩ := R.2.1.2.2.2.1
  have ho := R.2.1.2.2.2.2.1.2
  obtain ⟨e0, e1⟩ := id H
  refine AM.intro mf_X10_second (by simp [Value.category]) (Nat.le_of_ble_eq_true rfl) (fun X hl hE hnm hX => ?_)
  subst hl
  subst hE
  show AW X _ _ 0 0 0 [some (.ref y), none, none, none, none, none] []
  have fin2 : ∀ (z k : Nat) (s' sk : IF) (vv : PV) (u : Nat) (hh : HP) (x3 x4 x5 : Option Value), psF (ordF v o) 40 0 v P = (vv, u) → RI s' vv W P o → k ≤ 19 → k < z → HN hh y sk ps ty sp om → (∃ f, hh (y + 8) = some (cI 40 f)) → AG2 y h hh → (∀ q, q < 709 → sk q = s' q) → (∀ q, q ≤ k → sk (709 + q) = s' (709 + q)) → (∀ q, k < q → q < 20 → sk (709 + q) = s' (709 + q - 1)) → AW X n hh 0 0 152 [some (.ref y), some (.int (nI u)), some (.int (nI k)), x3, x4, x5] [] := by
    intro z
    induction z with
    | zero => intro k s' sk vv u hh x3 x4 x5 hq R' h1 h2; omega
    | succ z ih =>
      intro k s' sk vv u hh x3 x4 x5 hq R' h1 h2 g hf ag k1 k2 k3
      obtain ⟨e0, e1⟩ := id g
      have kp := (psF_KP (ordF v o) 40 0 v P).1
      rw [hq] at kp
      have hs : secF v P o = (vv.1, (vv.2.1.1, vv.2.1.2.1, vv.2.1.2.2.1 + (nI P - nI u), vv.2.1.2.2.2.1 + 1, upd vv.2.1.2.2.2.2 (vv.2.1.2.2.2.1 % 20) (nI P - nI u)), vv.2.2) := by rw [secF, hq, kp.2.2, kp.2.1]
      have y1 : sk 1 = nI P := (k1 1 (by decide)).trans ((R'.1.2.1 0 (by decide)).trans R'.2.1.2.2.2.1.1)
      have y7 : sk 7 = vv.2.1.2.2.1 := (k1 7 (by decide)).trans R'.1.2.2.2.1.2.2.1
      have y8 : sk 8 = nI vv.2.1.2.2.2.1 := (k1 8 (by decide)).trans R'.1.2.2.2.1.2.2.2
      obtain ⟨f8, hf8⟩ := hf
      refine aw_iload_n hX dX10_second_152 rfl ?_
      refine aw_if_le hX 184 dX10_second_153 (by decide) (fun c_153 => ?_) (fun c_153 => ?_)
      · have n_153 : k ≤ 0 := (nI_leI (a := k) (b := 0) (by omega) (by omega)).mp c_153
        have hk0 : k = 0 := by omega
        subst hk0
        refine aw_aload_n hX dX10_second_184 rfl ?_
        refine gt_X10_7 hX dX10_second_185 (by assumption) (by exact rfl) ?_
        refine aw_sipush hX (709) dX10_second_188 (by decide) ?_
        refine aw_aload_n hX dX10_second_191 rfl ?_
        refine gt_X10_7 hX dX10_second_192 (by assumption) (by exact rfl) ?_
        refine aw_iconst hX (1) dX10_second_195 (by decide) ?_
        refine aw_ialdN hX (1) (by assumption) rfl (by decide) (by first | decide | assumption) dX10_second_196 ?_
        rw [y1]
        refine aw_iload_n hX dX10_second_197 rfl ?_
        refine aw_isub hX dX10_second_198 ?_
        refine aw_iastN hX (709) (by assumption) rfl (by decide) (by first | decide | assumption) dX10_second_199 ?_
        have g := g.put (upd sk 709 (nI P - nI u))
        obtain ⟨e0, e1⟩ := id g
        refine aw_aload_n hX dX10_second_200 rfl ?_
        refine gt_X10_7 hX dX10_second_201 (by assumption) (by exact rfl) ?_
        refine aw_bipush hX (7) dX10_second_204 (by decide) ?_
        refine aw_dup2 hX dX10_second_206 rfl rfl ?_
        refine aw_ialdN hX (7) (by assumption) rfl (by decide) (by first | decide | assumption) dX10_second_207 ?_
        rw [show upd sk 709 (nI P - nI u) 7 = vv.2.1.2.2.1 from (pk_un (by omega)).trans y7]
        refine aw_aload_n hX dX10_second_208 rfl ?_
        refine gt_X10_7 hX dX10_second_209 (by assumption) (by exact rfl) ?_
        refine aw_iconst hX (1) dX10_second_212 (by decide) ?_
        refine aw_ialdN hX (1) (by assumption) rfl (by decide) (by first | decide | assumption) dX10_second_213 ?_
        rw [show upd sk 709 (nI P - nI u) 1 = nI P from (pk_un (by omega)).trans y1]
        refine aw_iload_n hX dX10_second_214 rfl ?_
        refine aw_isub hX dX10_second_215 ?_
        refine aw_iadd hX dX10_second_216 ?_
        refine aw_iastN hX (7) (by assumption) rfl (by decide) (by first | decide | assumption) dX10_second_217 ?_
        have g := g.put (upd (upd sk 709 (nI P - nI u)) 7 (vv.2.1.2.2.1 + (nI P - nI u)))
        obtain ⟨e0, e1⟩ := id g
        refine aw_aload_n hX dX10_second_218 rfl ?_
        refine gt_X10_7 hX dX10_second_219 (by assumption) (by exact rfl) ?_
        refine aw_bipush hX (8) dX10_second_222 (by decide) ?_
        refine aw_dup2 hX dX10_second_224 rfl rfl ?_
        refine aw_ialdN hX (8) (by assumption) rfl (by decide) (by first | decide | assumption) dX10_second_225 ?_
        rw [show (upd (upd sk 709 (nI P - nI u)) 7 (vv.2.1.2.2.1 + (nI P - nI u))) 8 = nI vv.2.1.2.2.2.1 from (pk_un (by omega)).trans ((pk_un (by omega)).trans y8)]
        refine aw_iconst hX (1) dX10_second_226 (by decide) ?_
        refine aw_iadd hX dX10_second_227 ?_
        rw [nI_1]
        refine aw_iastN hX (8) (by assumption) rfl (by decide) (by first | decide | assumption) dX10_second_228 ?_
        have g := g.put (upd (upd (upd sk 709 (nI P - nI u)) 7 (vv.2.1.2.2.1 + (nI P - nI u))) 8 (nI (vv.2.1.2.2.2.1 + 1)))
        exact aw_vret hX rfl rfl rfl rfl dX10_second_229 (by rw [hs]; exact ⟨rfl, _, g, ⟨R'.1.sec R'.2.1.2.2.1 (nI P - nI u) (fun k h1 h2 h3 => (pk_un (by omega)).trans ((pk_un (by omega)).trans ((pk_un (by omega)).trans (k1 k h3)))) ((pk_un (by omega)).trans pk_us) pk_us ((pk_un (by omega)).trans ((pk_un (by omega)).trans pk_us)) (fun k h1 h2 => (pk_un (by omega)).trans ((pk_un (by omega)).trans ((pk_un (by omega)).trans (k3 k (by omega) h2)))), R'.2.1, R'.2.2.1, R'.2.2.2⟩, ⟨f8, (hset_ne _ _ (by omega)).trans ((hset_ne _ _ (by omega)).trans ((hset_ne _ _ (by omega)).trans hf8))⟩, ((ag.set _ _ (Or.inl rfl)).set _ _ (Or.inl rfl)).set _ _ (Or.inl rfl)⟩)
      · have n_153 : ¬ k ≤ 0 := fun q => c_153 ((nI_leI (a := k) (b := 0) (by omega) (by omega)).mpr q)
        refine aw_aload_n hX dX10_second_156 rfl ?_
        refine gt_X10_7 hX dX10_second_157 (by assumption) (by exact rfl) ?_
        refine aw_sipush hX (709) dX10_second_160 (by decide) ?_
        refine aw_iload_n hX dX10_second_163 rfl ?_
        refine aw_iadd hX dX10_second_164 ?_
        refine aw_aload_n hX dX10_second_165 rfl ?_
        refine gt_X10_7 hX dX10_second_166 (by assumption) (by exact rfl) ?_
        refine aw_sipush hX (709) dX10_second_169 (by decide) ?_
        refine aw_iload_n hX dX10_second_172 rfl ?_
        refine aw_iadd hX dX10_second_173 ?_
        refine aw_iconst hX (1) dX10_second_174 (by decide) ?_
        refine aw_isub hX dX10_second_175 ?_
        refine aw_ialdN hX (709 + k - 1) (by assumption) (ix_p (by omega)) (by omega) (by first | decide | assumption) dX10_second_176 ?_
        refine aw_iastN hX (709 + k) (by assumption) (nI_add 709 k) (by omega) (by first | decide | assumption) dX10_second_177 ?_
        refine aw_iinc hX (nI (k - 1)) dX10_second_178 rfl (sb_m1 (by omega)) ?_
        refine aw_goto hX 152 dX10_second_181 (by decide) ?_
        exact ih (k - 1) s' (upd sk (709 + k) (sk (709 + k - 1))) vv u _ _ _ _ hq R' (by omega) (by omega) (g.put _) ⟨f8, (hset_ne _ _ (by omega)).trans hf8⟩ (ag.set _ _ (Or.inl rfl)) (fun q h1 => (pk_un (by omega)).trans (k1 q h1)) (fun q h1 => (pk_un (by omega)).trans (k2 q (by omega))) (fun q h1 h2 => by by_cases e : q = k; (subst e; refine pk_us.trans ?_; rw [show 709 + q - 1 = 709 + (q - 1) by omega]; exact k2 (q - 1) (by omega)); exact (pk_un (by omega)).trans (k3 q (by omega) h2))
  have fin1 : ∀ (s' : IF) (vv : PV) (u : Nat) (hh : HP) (x2 x3 x4 x5 : Option Value), psF (ordF v o) 40 0 v P = (vv, u) → RI s' vv W P o → HN hh y s' ps ty sp om → (∃ f, hh (y + 8) = some (cI 40 f)) → AG2 y h hh → AW X n hh 0 0 149 [some (.ref y), some (.int (nI u)), x2, x3, x4, x5] [] := by
    intro s' vv u hh x2 x3 x4 x5 hq R' g hf ag
    refine aw_bipush hX (19) dX10_second_149 (by decide) ?_
    refine aw_istore_n hX dX10_second_151 (Nat.le_of_ble_eq_true rfl) ?_
    exact fin2 20 19 s' s' vv u hh _ _ _ hq R' (by decide) (by decide) g hf ag (fun q _ => rfl) (fun q _ => rfl) (fun q h1 h2 => absurd h2 (by omega))
  have inner : ∀ (r i yy : Nat) (vv : PV) (s' : IF) (hh : HP) (c : Nat) (due : Int32) (tgt : PV × Nat) (gone : Nat) (bg : IF) (_ : ∀ (s' : IF) (hh : HP) (x5 : Option Value), HN hh y s' ps ty sp om → RI s' tgt.1 W P o → hh (y + 8) = some (cI 40 bg) → AG2 y h hh → AW X n hh 0 0 143 [some (.ref y), some (.int (nI tgt.2)), some (.int (nI gone)), some (.int (nI c)), some (.int due), x5] []), c < W → B7 due → i + r = 7 → yy ≤ 50 → tgt = fcF due c r i vv yy → HN hh y s' ps ty sp om → RI s' vv W P o → hh (y + 8) = some (cI 40 bg) → AG2 y h hh → AW X n hh 0 0 105 [some (.ref y), some (.int (nI yy)), some (.int (nI gone)), some (.int (nI c)), some (.int due), some (.int (nI i))] [] := by
    intro r
    induction r with
    | zero =>
      intro i yy vv s' hh c due tgt gone bg kk h1 h2 h3 h4 hq g R' hb ag
      have hi : i = 7 := by omega
      replace hq := hq.trans (show fcF due c 0 i vv yy = (vv, yy) from rfl)
      subst hq
      refine aw_iload hX dX10_second_105 rfl ?_
      refine aw_bipush hX (7) dX10_second_107 (by decide) ?_
      refine aw_icmp_ge hX 143 dX10_second_109 (by decide) (fun c_109 => ?_) (fun c_109 => ?_)
      · have n_109 : 7 ≤ i := (nI_leI (a := 7) (b := i) (by omega) (by omega)).mp c_109
        exact kk s' hh _ g R' hb ag
      · have n_109 : ¬ 7 ≤ i := fun q => c_109 ((nI_leI (a := 7) (b := i) (by omega) (by omega)).mpr q)
        exact absurd n_109 (by omega)
    | succ r ih =>
      intro i yy vv s' hh c due tgt gone bg kk h1 h2 h3 h4 hq g R' hb ag
      have hi : i < 7 := by omega
      have e0 := g.1
      replace hq := hq.trans (show fcF due c (r + 1) i vv yy = if yy = 0 then (vv, yy) else if due &&& mk i = 0 then fcF due c r (i + 1) vv yy else fcF due c r (i + 1) (tryF vv c i) (yy - 1) from rfl)
      refine aw_iload hX dX10_second_105 rfl ?_
      refine aw_bipush hX (7) dX10_second_107 (by decide) ?_
      refine aw_icmp_ge hX 143 dX10_second_109 (by decide) (fun c_109 => ?_) (fun c_109 => ?_)
      · have n_109 : 7 ≤ i := (nI_leI (a := 7) (b := i) (by omega) (by omega)).mp c_109
        exact absurd n_109 (by omega)
      · have n_109 : ¬ 7 ≤ i := fun q => c_109 ((nI_leI (a := 7) (b := i) (by omega) (by omega)).mpr q)
        refine aw_iload_n hX dX10_second_112 rfl ?_
        refine aw_if_le hX 143 dX10_second_113 (by decide) (fun c_113 => ?_) (fun c_113 => ?_)
        · have n_113 : yy ≤ 0 := (nI_leI (a := yy) (b := 0) (by omega) (by omega)).mp c_113
          rw [if_pos (show yy = 0 by omega)] at hq
          subst hq
          exact kk s' hh _ g R' hb ag
        · have n_113 : ¬ yy ≤ 0 := fun q => c_113 ((nI_leI (a := yy) (b := 0) (by omega) (by omega)).mpr q)
          rw [if_neg (show ¬ yy = 0 by omega)] at hq
          refine aw_iload hX dX10_second_116 rfl ?_
          refine aw_iload hX dX10_second_118 rfl ?_
          refine aw_ishr hX dX10_second_120 ?_
          refine aw_iconst hX (1) dX10_second_121 (by decide) ?_
          refine aw_iand hX dX10_second_122 ?_
          rw [h2.bit hi]
          refine aw_iconst hX (1) dX10_second_123 (by decide) ?_
          refine aw_icmp_ne hX 137 dX10_second_124 (by decide) (fun c_124 => ?_) (fun c_124 => ?_)
          · rw [if_pos (Decidable.not_not.mp (fun q => c_124 (bI_1.mpr q)))] at hq
            refine aw_iinc hX (nI (i + 1)) dX10_second_137 rfl (nI_1 i) ?_
            refine aw_goto hX 105 dX10_second_140 (by decide) ?_
            exact ih (i + 1) yy vv s' hh c due tgt gone bg kk h1 h2 (by omega) h4 hq g R' hb ag
          · rw [if_neg (bI_1.mp c_124)] at hq
            refine aw_aload_n hX dX10_second_127 rfl ?_
            refine aw_iload_n hX dX10_second_128 rfl ?_
            refine aw_iload hX dX10_second_129 rfl ?_
            refine aw_callV0 hX RX10 rfl (tX10_flipsAt _ _ _ g R' h1 hi) rfl mf_X10_flipsAt mi_X10_flipsAt ms_X10_flipsAt kl_X10_92 (by assumption) rfl rfl (by decide) (Nat.le_of_ble_eq_true rfl) dX10_second_131 (by decide) (fun v_131 h_131 p_131 => ?_)
            obtain ⟨rfl, s2, rfl, R2⟩ := p_131
            refine aw_iinc hX (nI (yy - 1)) dX10_second_134 rfl (sb_m1 (by omega)) ?_
            refine aw_iinc hX (nI (i + 1)) dX10_second_137 rfl (nI_1 i) ?_
            refine aw_goto hX 105 dX10_second_140 (by decide) ?_
            exact ih (i + 1) (yy - 1) (tryF vv c i) s2 _ c due tgt gone bg kk h1 h2 (by omega) (by omega) hq (g.put s2) R2 ((hset_ne _ _ (by omega)).trans hb) (ag.set _ _ (Or.inl rfl))
  have main : ∀ (z gone : Nat) (Rl : List Nat) (vv : PV) (u : Nat) (s' : IF) (hh : HP) (bg : IF) (x3 x4 x5 : Option Value), gone ≤ W → W - gone < z → u ≤ 50 → psF (ordF v o) 40 0 v P = psL Rl vv u → Rl.Pairwise (· ≠ ·) → (∀ c, c ∈ Rl → c < W ∧ ¬ dueP v c = 0) → (∀ c, c ∈ Rl → dueP vv c = dueP v c) → (∀ c, c < W → c ∈ Rl → bg c = bcF (dueP v c)) → (∀ c, c < W → c ∉ Rl → bg c ≤ 0) → ORD v W o gone Rl → HN hh y s' ps ty sp om → RI s' vv W P o → hh (y + 8) = some (cI 40 bg) → AG2 y h hh → AW X n hh 0 0 41 [some (.ref y), some (.int (nI u)), some (.int (nI gone)), x3, x4, x5] [] := by
    intro z
    induction z with
    | zero => intro gone Rl vv u s' hh bg x3 x4 x5 h1 h2; omega
    | succ z ih =>
      intro gone Rl vv u s' hh bg x3 x4 x5 h1 h2 h3 hq k1 k2 k3 k4 k5 k6 g R' hb ag
      obtain ⟨e0, e1⟩ := id g
      have step : gone < W → ¬ u ≤ 1 → ∀ c, c < W → ((c ∉ Rl ∧ ORD v W o (gone + 1) Rl) ∨ ∃ R2, Rl = c :: R2 ∧ ORD v W o (gone + 1) R2) → AW X n hh 0 0 62 [some (.ref y), some (.int (nI u)), some (.int (nI gone)), some (.int (nI c)), x4, x5] [] := by
        intro hg hu c hc hst
        rcases hst with ⟨hn, hO⟩ | ⟨R2, rfl, hO⟩
        ·
          refine aw_aload_n hX dX10_second_62 rfl ?_
          refine gt_X10_31 hX dX10_second_63 (by assumption) (by exact rfl) ?_
          refine aw_iload_n hX dX10_second_66 rfl ?_
          refine aw_ialdN hX (c) (by assumption) rfl (by omega) (by first | decide | assumption) dX10_second_67 ?_
          refine aw_if_le hX 79 dX10_second_68 (by decide) (fun c_68 => ?_) (fun c_68 => ?_)
          · refine aw_iconst hX (0) dX10_second_79 (by decide) ?_
            refine aw_istore hX dX10_second_80 (Nat.le_of_ble_eq_true rfl) ?_
            refine aw_aload_n hX dX10_second_82 rfl ?_
            refine gt_X10_31 hX dX10_second_83 (by assumption) (by exact rfl) ?_
            refine aw_iload_n hX dX10_second_86 rfl ?_
            refine aw_iconst hX (-1) dX10_second_87 (by decide) ?_
            refine aw_iastN hX (c) (by assumption) rfl (by omega) (by first | decide | assumption) dX10_second_88 ?_
            refine aw_iload_n hX dX10_second_89 rfl ?_
            refine aw_iload hX dX10_second_90 rfl ?_
            refine aw_if_ne hX 99 dX10_second_92 (by decide) (fun c_92 => ?_) (fun c_92 => ?_)
            · exact absurd rfl c_92
            · refine aw_iconst hX (0) dX10_second_95 (by decide) ?_
              refine aw_goto hX 100 dX10_second_96 (by decide) ?_
              refine aw_isub hX dX10_second_100 ?_
              rw [show nI u - 0 = nI u from Int32.sub_zero _]
              refine aw_istore_n hX dX10_second_101 (Nat.le_of_ble_eq_true rfl) ?_
              refine aw_iconst hX (0) dX10_second_102 (by decide) ?_
              refine aw_istore hX dX10_second_103 (Nat.le_of_ble_eq_true rfl) ?_
              exact inner 7 0 u vv s' _ c 0 (vv, u) gone (upd bg c (-1)) (fun s2 hh2 x5 g2 R2 hb2 ag2 => by refine aw_iinc hX (nI (gone + 1)) dX10_second_143 rfl (nI_1 gone) ?_; refine aw_goto hX 41 dX10_second_146 (by decide) ?_; exact ih (gone + 1) Rl vv u s2 hh2 (upd bg c (-1)) _ _ _ (by omega) (by omega) h3 hq k1 k2 k3 (fun j h4 h5 => (pk_un (fun e : j = c => hn (by rw [← e]; exact h5))).trans (k4 j h4 h5)) (fun j h4 h5 => by by_cases e : j = c; (subst e; rw [pk_us]; decide); (rw [pk_un e]; exact k5 j h4 h5)) hO g2 R2 hb2 ag2) hc B7_0 rfl h3 (fcF_0 c 7 0 vv u).symm (g.off _ (by omega)) R' (hset_eq _ _ _) (ag.set _ _ (Or.inr rfl))
          · exact absurd (k5 c hc hn) c_68
        ·
          obtain ⟨p1, p2⟩ := List.pairwise_cons.mp k1
          have hd := k2 c List.mem_cons_self
          have hdv := k3 c List.mem_cons_self
          have h7 := hBO.due (c := c) (by omega)
          have hbc := k4 c hc List.mem_cons_self
          rw [psL, if_neg hu, if_neg (fun q => hd.2 (hdv.symm.trans q)), hdv] at hq
          have kq := fcF_KP (dueP v c) c 7 0 vv (u - 1)
          refine aw_aload_n hX dX10_second_62 rfl ?_
          refine gt_X10_31 hX dX10_second_63 (by assumption) (by exact rfl) ?_
          refine aw_iload_n hX dX10_second_66 rfl ?_
          refine aw_ialdN hX (c) (by assumption) rfl (by omega) (by first | decide | assumption) dX10_second_67 ?_
          rw [hbc]
          refine aw_if_le hX 79 dX10_second_68 (by decide) (fun c_68 => ?_) (fun c_68 => ?_)
          · exact absurd c_68 (Int32.not_le.mpr (h7.pos hd.2))
          · refine aw_aload_n hX dX10_second_71 rfl ?_
            refine aw_iload_n hX dX10_second_72 rfl ?_
            refine aw_callVp hX RX10 rfl (tX10_dueOf _ _ _ g (by omega)) rfl mf_X10_dueOf mi_X10_dueOf ms_X10_dueOf kl_X10_86 (by assumption) rfl rfl (by decide) (Nat.le_of_ble_eq_true rfl) dX10_second_73 (by decide) ?_
            rw [R'.due hc, hdv]
            refine aw_goto hX 80 dX10_second_76 (by decide) ?_
            refine aw_istore hX dX10_second_80 (Nat.le_of_ble_eq_true rfl) ?_
            refine aw_aload_n hX dX10_second_82 rfl ?_
            refine gt_X10_31 hX dX10_second_83 (by assumption) (by exact rfl) ?_
            refine aw_iload_n hX dX10_second_86 rfl ?_
            refine aw_iconst hX (-1) dX10_second_87 (by decide) ?_
            refine aw_iastN hX (c) (by assumption) rfl (by omega) (by first | decide | assumption) dX10_second_88 ?_
            refine aw_iload_n hX dX10_second_89 rfl ?_
            refine aw_iload hX dX10_second_90 rfl ?_
            refine aw_if_ne hX 99 dX10_second_92 (by decide) (fun c_92 => ?_) (fun c_92 => ?_)
            · refine aw_iconst hX (1) dX10_second_99 (by decide) ?_
              refine aw_isub hX dX10_second_100 ?_
              rw [show nI u - 1 = nI (u - 1) from pk_sub (b := 1) (by omega)]
              refine aw_istore_n hX dX10_second_101 (Nat.le_of_ble_eq_true rfl) ?_
              refine aw_iconst hX (0) dX10_second_102 (by decide) ?_
              refine aw_istore hX dX10_second_103 (Nat.le_of_ble_eq_true rfl) ?_
              exact inner 7 0 (u - 1) vv s' _ c (dueP v c) (fcF (dueP v c) c 7 0 vv (u - 1)) gone (upd bg c (-1)) (fun s2 hh2 x5 g2 R3 hb2 ag2 => by refine aw_iinc hX (nI (gone + 1)) dX10_second_143 rfl (nI_1 gone) ?_; refine aw_goto hX 41 dX10_second_146 (by decide) ?_; exact ih (gone + 1) R2 _ _ s2 hh2 (upd bg c (-1)) _ _ _ (by omega) (by omega) (by omega) hq p2 (fun j h4 => k2 j (List.mem_cons_of_mem _ h4)) (fun j h4 => (fcF_due _ (fun e => p1 j h4 e.symm) 7 0 vv (u - 1)).trans (k3 j (List.mem_cons_of_mem _ h4))) (fun j h4 h5 => (pk_un (fun e : j = c => p1 j h5 e.symm)).trans (k4 j h4 (List.mem_cons_of_mem _ h5))) (fun j h4 h5 => by by_cases e : j = c; (subst e; rw [pk_us]; decide); (rw [pk_un e]; exact k5 j h4 (fun q => (List.mem_cons.mp q).elim e h5))) hO g2 R3 hb2 ag2) hc h7 rfl (by omega) rfl (g.off _ (by omega)) R' (hset_eq _ _ _) (ag.set _ _ (Or.inr rfl))
            · exact absurd c_92 hd.2
      refine aw_iload_n hX dX10_second_41 rfl ?_
      refine aw_aload_n hX dX10_second_42 rfl ?_
      refine gt_X10_7 hX dX10_second_43 (by assumption) (by exact rfl) ?_
      refine aw_iconst hX (0) dX10_second_46 (by decide) ?_
      refine aw_ialdN hX (0) (by assumption) rfl (by decide) (by first | decide | assumption) dX10_second_47 ?_
      rw [show s' 0 = nI W from R'.1.1.1]
      refine aw_icmp_ge hX 149 dX10_second_48 (by decide) (fun c_48 => ?_) (fun c_48 => ?_)
      · have n_48 : W ≤ gone := (nI_leI (a := W) (b := gone) (by omega) (by omega)).mp c_48
        have hgW : gone = W := by omega
        subst hgW
        have hR := ORD_end hW4 ho k2 k6
        subst hR
        exact fin1 s' vv u hh _ _ _ _ hq R' g ⟨bg, hb⟩ ag
      · have n_48 : ¬ W ≤ gone := fun q => c_48 ((nI_leI (a := W) (b := gone) (by omega) (by omega)).mpr q)
        refine aw_iload_n hX dX10_second_51 rfl ?_
        refine aw_iconst hX (1) dX10_second_52 (by decide) ?_
        refine aw_icmp_le hX 149 dX10_second_53 (by decide) (fun c_53 => ?_) (fun c_53 => ?_)
        · have n_53 : u ≤ 1 := (nI_leI (a := u) (b := 1) (by omega) (by omega)).mp c_53
          exact fin1 s' vv u hh _ _ _ _ (hq.trans (psL_low n_53 _ _)) R' g ⟨bg, hb⟩ ag
        · have n_53 : ¬ u ≤ 1 := fun q => c_53 ((nI_leI (a := u) (b := 1) (by omega) (by omega)).mpr q)
          refine aw_aload_n hX dX10_second_56 rfl ?_
          refine aw_iload_n hX dX10_second_57 rfl ?_
          refine aw_callVp hX RX10 rfl (tX10_nextColumn _ _ _ g R' hb (by omega)) rfl mf_X10_nextColumn mi_X10_nextColumn ms_X10_nextColumn kl_X10_89 (by assumption) rfl rfl (by decide) (Nat.le_of_ble_eq_true rfl) dX10_second_58 (by decide) ?_
          refine aw_istore_n hX dX10_second_61 (Nat.le_of_ble_eq_true rfl) ?_
          obtain ⟨w1, w2⟩ := nx_step hBO hW4 ho (by omega) k2 k4 k5 k6
          exact step (by omega) n_53 _ w1 w2
  have ph1 : ∀ (z k : Nat) (bg : IF), k ≤ W → W - k < z → (∀ j, j < k → bg j = bcF (dueP v j)) → AW X n (hset h (y + 8) (cI 40 bg)) 0 0 9 [some (.ref y), some (.int (nI P)), some (.int (nI k)), none, none, none] [] := by
    intro z
    induction z with
    | zero => intro k bg h1 h2; omega
    | succ z ih =>
      intro k bg h1 h2 h3
      have g := H.off (a := y + 8) (cI 40 bg) (by omega)
      obtain ⟨e0, e1⟩ := id g
      have hb := hset_eq h (y + 8) (cI 40 bg)
      refine aw_iload_n hX dX10_second_9 rfl ?_
      refine aw_aload_n hX dX10_second_10 rfl ?_
      refine gt_X10_7 hX dX10_second_11 (by assumption) (by exact rfl) ?_
      refine aw_iconst hX (0) dX10_second_14 (by decide) ?_
      refine aw_ialdN hX (0) (by assumption) rfl (by decide) (by first | decide | assumption) dX10_second_15 ?_
      rw [show s 0 = nI W from R.1.1.1]
      refine aw_icmp_ge hX 39 dX10_second_16 (by decide) (fun c_16 => ?_) (fun c_16 => ?_)
      · have n_16 : W ≤ k := (nI_leI (a := W) (b := k) (by omega) (by omega)).mp c_16
        refine aw_iconst hX (0) dX10_second_39 (by decide) ?_
        refine aw_istore_n hX dX10_second_40 (Nat.le_of_ble_eq_true rfl) ?_
        have hk : k = W := by omega
        subst hk
        obtain ⟨R0, i1, i2, i3, i4, i5⟩ := R0_ex hBO R.1.1.2.1 hW4 ho P
        exact main (k + 1) 0 R0 v P s _ bg _ _ _ (by omega) (by omega) hP50 i1 i2 i3 (fun c _ => rfl) (fun c h1 _ => h3 c h1) (fun c h1 h2 => by rw [h3 c h1, show dueP v c = 0 from Decidable.byContradiction (fun q => h2 (i4 c h1 q)), bcF_0]; decide) i5 g R hb (AG2.set (fun q _ _ => rfl) _ _ (Or.inr rfl))
      · have n_16 : ¬ W ≤ k := fun q => c_16 ((nI_leI (a := W) (b := k) (by omega) (by omega)).mpr q)
        have n_16' : k < W := by omega
        refine aw_aload_n hX dX10_second_19 rfl ?_
        refine gt_X10_31 hX dX10_second_20 (by assumption) (by exact rfl) ?_
        refine aw_iload_n hX dX10_second_23 rfl ?_
        refine aw_aload_n hX dX10_second_24 rfl ?_
        refine aw_iload_n hX dX10_second_25 rfl ?_
        refine aw_callVp hX RX10 rfl (tX10_dueOf _ _ _ g (by omega)) rfl mf_X10_dueOf mi_X10_dueOf ms_X10_dueOf kl_X10_86 (by assumption) rfl rfl (by decide) (Nat.le_of_ble_eq_true rfl) dX10_second_26 (by decide) ?_
        rw [R.due n_16']
        refine aw_callSp hX RX10 rfl (tX10_bits7 _ _ _ _ (hBO.due (c := k) (by omega))) rfl mf_X10_bits mt_X10_bits kl_X10_72 rfl (by decide) (Nat.le_of_ble_eq_true rfl) dX10_second_29 (by decide) ?_
        refine aw_iastN hX (k) (by assumption) rfl (by omega) (by first | decide | assumption) dX10_second_32 ?_
        rw [hset_hset]
        refine aw_iinc hX (nI (k + 1)) dX10_second_33 rfl (nI_1 k) ?_
        refine aw_goto hX 9 dX10_second_36 (by decide) ?_
        exact ih (k + 1) _ (by omega) (by omega) (upd_lo2 (f := fun j => bcF (dueP v j)) h3)
  refine aw_aload_n hX dX10_second_0 rfl ?_
  refine gt_X10_7 hX dX10_second_1 (by assumption) (by exact rfl) ?_
  refine aw_iconst hX (1) dX10_second_4 (by decide) ?_
  refine aw_ialdN hX (1) (by assumption) rfl (by decide) (by first | decide | assumption) dX10_second_5 ?_
  rw [show s 1 = nI P from (R.1.2.1 0 (by decide)).trans hP]
  refine aw_istore_n hX dX10_second_6 (Nat.le_of_ble_eq_true rfl) ?_
  refine aw_iconst hX (0) dX10_second_7 (by decide) ?_
  refine aw_istore_n hX dX10_second_8 (Nat.le_of_ble_eq_true rfl) ?_
  rw [← hset_self hb]
  exact ph1 (W + 1) 0 f0 (by omega) (by omega) (fun j hj => absurd hj (Nat.not_lt_zero j))
end REF13
