theorem AW.top {X : CX} {n : Nat} {h : HP} {k sl pc : Nat} {L : List (Option Value)} {st : List Value} {x y : Int32} (e : x = y) (kk : AW X n h k sl pc L (.int y :: st)) : AW X n h k sl pc L (.int x :: st) := by
  rw [e]
  exact kk
theorem upd_lo2 {g f : IF} {j : Nat} (h : ∀ i, i < j → g i = f i) : ∀ i, i < j + 1 → upd g j (f j) i = f i := fun i hi => by
  by_cases e : i = j
  · subst e
    exact pk_us
  · rw [pk_un e]
    exact h i (by omega)
/-! History -/
def HHist (h : HP) (q f z : Nat) (vs : Nat → PV) : Prop :=
  h q = some (cO 2 [.ref (q + 1), .int (nI f), .int (nI z)]) ∧ (∃ g : Nat → Option Nat, h (q + 1) = some (cG 2 6 g) ∧ ∀ k, k < 6 → g k = some (q + 2 + 15 * k)) ∧ ∀ k, k < 6 → HState h (q + 2 + 15 * k) (vs k)
section HIST
variable {h : HP} {q f z : Nat} {vs : Nat → PV}
theorem HHist.sm {h' : HP} {lo hi : Nat} (H : HHist h q f z vs) (s : Sm lo hi h h') (hq : hi ≤ q ∨ q + 92 ≤ lo) : HHist h' q f z vs := by
  obtain ⟨h1, ⟨g, h2, h3⟩, h4⟩ := H
  exact ⟨(s.at (by omega)).trans h1, ⟨g, (s.at (by omega)).trans h2, h3⟩, fun k hk => (h4 k hk).sm s (by omega)⟩
theorem HHist.a0 (H : HHist h q f z vs) (f' z' : Nat) : HHist (hset h q (cO 2 [.ref (q + 1), .int (nI f'), .int (nI z')])) q f' z' vs := by
  obtain ⟨h1, ⟨g, h2, h3⟩, h4⟩ := H
  exact ⟨hset_eq _ _ _, ⟨g, (hset_ne _ _ (by omega)).trans h2, h3⟩, fun k hk => (h4 k hk).off _ (by omega)⟩
theorem HHist.put {h' : HP} (H : HHist h q f z vs) {k : Nat} {v : PV} (hk : k < 6) (H' : HState h' (q + 2 + 15 * k) v) (s : Sm (q + 2 + 15 * k) (q + 2 + 15 * k + 15) h h') : HHist h' q f z (va_up vs k v) := by
  obtain ⟨h1, ⟨g, h2, h3⟩, h4⟩ := H
  refine ⟨(s.at (by omega)).trans h1, ⟨g, (s.at (by omega)).trans h2, h3⟩, fun j hj => ?_⟩
  by_cases e : j = k
  · subst e
    rw [va_up, if_pos rfl]
    exact H'
  · rw [va_up, if_neg e]
    exact (h4 j hj).sm s (by omega)
theorem tX2_stateAt (l : Launch) (E : EV) (n : Nat) (H : HHist h q f z vs) {i : Nat} (hf : f < 1000) (hi : i < 1000) : MX2_stateAt l E n h [.ref q, .int (nI i)] (PR (.ref (q + 2 + 15 * ((f + i) % 6))) h) := by
  obtain ⟨e0, ⟨g, e1, e2⟩, e3⟩ := H
  refine AM.intro mf_X2_stateAt (by simp [Value.category]) (Nat.le_of_ble_eq_true rfl) (fun X hl hE hnm hX => ?_)
  subst hl
  subst hE
  show AW X _ _ 0 0 0 [some (.ref q), some (.int (nI i))] []
  refine aw_aload_n hX dX2_stateAt_0 rfl ?_
  refine gt_X2_11 hX dX2_stateAt_1 (by assumption) (by exact rfl) ?_
  refine aw_aload_n hX dX2_stateAt_4 rfl ?_
  refine gt_X2_17 hX dX2_stateAt_5 (by assumption) (by exact rfl) ?_
  refine aw_iload_n hX dX2_stateAt_8 rfl ?_
  refine aw_iadd hX dX2_stateAt_9 ?_
  rw [nI_add]
  refine aw_bipush hX (6) dX2_stateAt_10 (by decide) ?_
  refine aw_callSp hX RX2 rfl (tJ9_floorMod _ _ _ _ (a := f + i) (b := 6) (by omega) (by decide) (by decide)) rfl mf_J9_floorMod_7cf53 mt_J9_floorMod_7cf53 kl_X2_33 rfl (by decide) (Nat.le_of_ble_eq_true rfl) dX2_stateAt_12 (by decide) ?_
  refine aw_aaldN hX ((f + i) % 6) (by assumption) (by decide) rfl (Nat.mod_lt _ (by decide)) (by decide) (e2 _ (Nat.mod_lt _ (by decide))) dX2_stateAt_15 ?_
  exact aw_aret hX rfl rfl rfl rfl dX2_stateAt_16 (by exact ⟨rfl, rfl⟩)
theorem tX2_keep (l : Launch) (E : EV) (n : Nat) (H : HHist h q f z vs) (hf : f < 6) (hz : z ≤ 6) {p : Nat} {v : PV} (Hp : HState h p v) (hd : p + 15 ≤ q ∨ q + 92 ≤ p) : MX2_keep l E n h [.ref q, .ref p] (fun r h' => r = none ∧ HHist h' q (if z < 6 then f else (f + 1) % 6) (if z < 6 then z + 1 else 6) (va_up vs ((f + z) % 6) v) ∧ Sm q (q + 92) h h') := by
  have e := H
  have hmod : (f + z) % 6 < 6 := Nat.mod_lt _ (by decide)
  obtain ⟨e0, ⟨g, e1, e2⟩, e3⟩ := H
  have hs := e3 _ hmod
  have s0 := hs.1
  by_cases hz6 : z < 6
  · rw [if_pos hz6, if_pos hz6]
    refine AM.intro mf_X2_keep (by simp [Value.category]) (Nat.le_of_ble_eq_true rfl) (fun X hl hE hnm hX => ?_)
    subst hl
    subst hE
    show AW X _ _ 0 0 0 [some (.ref q), some (.ref p), none] []
    refine aw_aload_n hX dX2_keep_0 rfl ?_
    refine aw_aload_n hX dX2_keep_1 rfl ?_
    refine gt_X2_21 hX dX2_keep_2 (by assumption) (by exact rfl) ?_
    refine aw_callVp hX RX2 rfl (tX2_stateAt _ _ _ e (by omega) (by omega)) rfl mf_X2_stateAt mi_X2_stateAt ms_X2_stateAt kl_X2_25 (by assumption) rfl rfl (by decide) (Nat.le_of_ble_eq_true rfl) dX2_keep_5 (by decide) ?_
    refine aw_astore_n hX dX2_keep_8 (Nat.le_of_ble_eq_true rfl) ?_
    refine aw_aload_n hX dX2_keep_9 rfl ?_
    refine aw_ifnull hX dX2_keep_10 ?_
    refine aw_aload_n hX dX2_keep_13 rfl ?_
    refine aw_aload_n hX dX2_keep_14 rfl ?_
    refine aw_callV0 hX RX2 rfl (tX8_copyFrom _ _ _ hs Hp (by omega)) rfl mf_X8_copyFrom mi_X8_copyFrom ms_X8_copyFrom kl_X2_29 (by assumption) rfl rfl (by decide) (Nat.le_of_ble_eq_true rfl) dX2_keep_15 (by decide) (fun v_15 h_15 p_15 => ?_)
    obtain ⟨rfl, hs', sm⟩ := p_15
    have e := e.put hmod hs' sm
    have sm0 := Sm.tr (lo := q) (hi := q + 92) Sm.rf sm (by omega) (by omega)
    have e0 := e.1
    refine aw_aload_n hX dX2_keep_18 rfl ?_
    refine gt_X2_21 hX dX2_keep_19 (by assumption) (by exact rfl) ?_
    refine aw_bipush hX (6) dX2_keep_22 (by decide) ?_
    refine aw_icmp_ge hX 40 dX2_keep_24 (by decide) (fun c_24 => ?_) (fun c_24 => ?_)
    · exact absurd c_24 (nI_ge hz6 (by decide))
    · refine aw_aload_n hX dX2_keep_27 rfl ?_
      refine aw_dup hX dX2_keep_28 rfl ?_
      refine gt_X2_21 hX dX2_keep_29 (by assumption) (by exact rfl) ?_
      refine aw_iconst hX (1) dX2_keep_32 (by decide) ?_
      refine aw_iadd hX dX2_keep_33 ?_
      rw [nI_1]
      refine pt_X2_21 hX dX2_keep_34 (by assumption) (Nat.le_of_ble_eq_true rfl) ?_
      dsimp only [List.set_cons_zero, List.set_cons_succ]
      have e := e.a0 f (z + 1)
      refine aw_goto hX 55 dX2_keep_37 (by decide) ?_
      exact aw_vret hX rfl rfl rfl rfl dX2_keep_55 (by exact ⟨rfl, e, sm0.set (by omega) (by omega)⟩)
  · rw [if_neg hz6, if_neg hz6]
    have hz0 : z = 6 := by omega
    subst hz0
    refine AM.intro mf_X2_keep (by simp [Value.category]) (Nat.le_of_ble_eq_true rfl) (fun X hl hE hnm hX => ?_)
    subst hl
    subst hE
    show AW X _ _ 0 0 0 [some (.ref q), some (.ref p), none] []
    refine aw_aload_n hX dX2_keep_0 rfl ?_
    refine aw_aload_n hX dX2_keep_1 rfl ?_
    refine gt_X2_21 hX dX2_keep_2 (by assumption) (by exact rfl) ?_
    refine aw_callVp hX RX2 rfl (tX2_stateAt _ _ _ e (by omega) (by omega)) rfl mf_X2_stateAt mi_X2_stateAt ms_X2_stateAt kl_X2_25 (by assumption) rfl rfl (by decide) (Nat.le_of_ble_eq_true rfl) dX2_keep_5 (by decide) ?_
    refine aw_astore_n hX dX2_keep_8 (Nat.le_of_ble_eq_true rfl) ?_
    refine aw_aload_n hX dX2_keep_9 rfl ?_
    refine aw_ifnull hX dX2_keep_10 ?_
    refine aw_aload_n hX dX2_keep_13 rfl ?_
    refine aw_aload_n hX dX2_keep_14 rfl ?_
    refine aw_callV0 hX RX2 rfl (tX8_copyFrom _ _ _ hs Hp (by omega)) rfl mf_X8_copyFrom mi_X8_copyFrom ms_X8_copyFrom kl_X2_29 (by assumption) rfl rfl (by decide) (Nat.le_of_ble_eq_true rfl) dX2_keep_15 (by decide) (fun v_15 h_15 p_15 => ?_)
    obtain ⟨rfl, hs', sm⟩ := p_15
    have e := e.put hmod hs' sm
    have sm0 := Sm.tr (lo := q) (hi := q + 92) Sm.rf sm (by omega) (by omega)
    have e0 := e.1
    refine aw_aload_n hX dX2_keep_18 rfl ?_
    refine gt_X2_21 hX dX2_keep_19 (by assumption) (by exact rfl) ?_
    refine aw_bipush hX (6) dX2_keep_22 (by decide) ?_
    refine aw_icmp_ge hX 40 dX2_keep_24 (by decide) (fun c_24 => ?_) (fun c_24 => ?_)
    · refine aw_aload_n hX dX2_keep_40 rfl ?_
      refine aw_aload_n hX dX2_keep_41 rfl ?_
      refine gt_X2_17 hX dX2_keep_42 (by assumption) (by exact rfl) ?_
      refine aw_iconst hX (1) dX2_keep_45 (by decide) ?_
      refine aw_iadd hX dX2_keep_46 ?_
      rw [nI_1]
      refine aw_bipush hX (6) dX2_keep_47 (by decide) ?_
      refine aw_callSp hX RX2 rfl (tJ9_floorMod _ _ _ _ (a := f + 1) (b := 6) (by omega) (by decide) (by decide)) rfl mf_J9_floorMod_7cf53 mt_J9_floorMod_7cf53 kl_X2_33 rfl (by decide) (Nat.le_of_ble_eq_true rfl) dX2_keep_49 (by decide) ?_
      refine pt_X2_17 hX dX2_keep_52 (by assumption) (Nat.le_of_ble_eq_true rfl) ?_
      dsimp only [List.set_cons_zero, List.set_cons_succ]
      have e := e.a0 ((f + 1) % 6) 6
      exact aw_vret hX rfl rfl rfl rfl dX2_keep_55 (by exact ⟨rfl, e, sm0.set (by omega) (by omega)⟩)
    · exact absurd (Int32.le_refl 6) c_24
end HIST
/-! Painter -/
def stF (W T : Nat) (s : Int) : Int := if T ≤ W then ((W - T) / 2 : Nat) + s else s
abbrev TF (S : SV) (m : Nat) : Nat := tF S.2.1 (fun k => S.2.2.1 (m * 12 + k)) (S.2.2.2.1 m)
/-- the picture of a message with a shift -/
def pF (W : Nat) (S : SV) (m : Nat) (s : Int) : IF := fun c => if c < W then sbF S.1 S.2.1 (fun k => S.2.2.1 (m * 12 + k)) (S.2.2.2.1 m) 0 ((c : Int) - stF W (TF S m) s) else 0
def WS (S : SV) : Prop := S.2.2.2.2 ≤ 8 ∧ (∀ c, c < 26 → S.2.1 c ≤ 5) ∧ ∀ m, m < S.2.2.2.2 → 1 ≤ S.2.2.2.1 m ∧ S.2.2.2.1 m ≤ 12 ∧ ∀ i, i < S.2.2.2.1 m → S.2.2.1 (m * 12 + i) ≤ 26
theorem sumN_le {f : Nat → Nat} {b : Nat} : ∀ {n : Nat}, (∀ i, i < n → f i ≤ b) → sumN f n ≤ n * b
  | 0, _ => by simp [sumN]
  | n + 1, h => by
    have h1 := sumN_le (f := f) (b := b) (n := n) (fun i hi => h i (by omega))
    have h2 := h n (by omega)
    rw [sumN, Nat.succ_mul]
    omega
theorem WS.wF5 {S : SV} (H : WS S) {c : Nat} (hc : c ≤ 26) : wF S.2.1 c ≤ 5 := by
  unfold wF
  split
  · decide
  · exact H.2.1 c (by omega)
theorem WS.T71 {S : SV} (H : WS S) {m : Nat} (hm : m < S.2.2.2.2) : TF S m ≤ 71 := by
  obtain ⟨h1, h2, h3⟩ := H.2.2 m hm
  have h4 := sumN_le (f := fun k => wF S.2.1 (S.2.2.1 (m * 12 + k))) (b := 5) (n := S.2.2.2.1 m) (fun i hi => H.wF5 (h3 i hi))
  show S.2.2.2.1 m - 1 + sumN (fun k => wF S.2.1 (S.2.2.1 (m * 12 + k))) (S.2.2.2.1 m) ≤ 71
  omega
def HPaint (h : HP) (a : Nat) : Prop := h a = some (cO 5 [.ref (a + 1), .ref (a + 2)]) ∧ (∃ f, h (a + 1) = some (cI 40 f)) ∧ ∃ f, h (a + 2) = some (cI 40 f)
section PAINT
variable {h : HP} {p : Nat} {v : PV} {W m : Nat}
theorem HPaint.sm {h' : HP} {a lo hi : Nat} (H : HPaint h a) (s : Sm lo hi h h') (hq : hi ≤ a ∨ a + 3 ≤ lo) : HPaint h' a := by
  obtain ⟨h1, ⟨f, h2⟩, g, h3⟩ := H
  exact ⟨(s.at (by omega)).trans h1, ⟨f, (s.at (by omega)).trans h2⟩, g, (s.at (by omega)).trans h3⟩
theorem HPaint.a1 {a : Nat} (H : HPaint h a) (f : IF) : HPaint (hset h (a + 1) (cI 40 f)) a :=
  ⟨(hset_ne _ _ (by omega)).trans H.1, ⟨f, hset_eq _ _ _⟩, H.2.2.choose, (hset_ne _ _ (by omega)).trans H.2.2.choose_spec⟩
theorem HPaint.a2 {a : Nat} (H : HPaint h a) (f : IF) : HPaint (hset h (a + 2) (cI 40 f)) a :=
  ⟨(hset_ne _ _ (by omega)).trans H.1, ⟨H.2.1.choose, (hset_ne _ _ (by omega)).trans H.2.1.choose_spec⟩, f, hset_eq _ _ _⟩
theorem tX5_draw (l : Launch) (E : EV) (n : Nat) (H : HState h p v) (hW : v.1.1 = nI W) (hW40 : W ≤ 40) (hS : WS v.2.2.1) (hm : m < v.2.2.1.2.2.2.2) {s : Int} (hs1 : -2 ≤ s) (hs2 : s ≤ 2) (a : Nat) {b : Nat} {f : IF} (hb : h b = some (cI 40 f)) (hbp : b < p ∨ p + 15 ≤ b) : MX5_draw l E n h [.ref a, .ref p, .int (nI m), .int (iI s), .ref b] (fun r h' => r = none ∧ h' = hset h b (cI 40 (pF W v.2.2.1 m s))) := by
  obtain ⟨hl1, hl2, hl3⟩ := hS.2.2 m hm
  have hT := hS.T71 hm
  have e := H
  obtain ⟨e0, e1, e2, e3, e4⟩ := H
  have d0 := e1.1
  have s0 := e3.1
  refine AM.intro mf_X5_draw (by simp [Value.category]) (Nat.le_of_ble_eq_true rfl) (fun X hl hE hnm hX => ?_)
  subst hl
  subst hE
  show AW X _ _ 0 0 0 [some (.ref a), some (.ref p), some (.int (nI m)), some (.int (iI s)), some (.ref b), none, none, none, none] []
  have loop : ∀ (g j : Nat) (k : IF), j ≤ 40 → 40 - j < g → (∀ i, i < j → k i = pF W v.2.2.1 m s i) → AW X n (hset h b (cI 40 k)) 0 0 44 [some (.ref a), some (.ref p), some (.int (nI m)), some (.int (iI s)), some (.ref b), some (.int (nI W)), some (.int (nI (TF v.2.2.1 m))), some (.int (iI (stF W (TF v.2.2.1 m) s))), some (.int (nI j))] [] := by
    intro g
    induction g with
    | zero => intro j k h1 h2; omega
    | succ g ih =>
      intro j k h1 h2 h3
      have e := e.off (a := b) (cI 40 k) hbp
      have eb := hset_eq h b (cI 40 k)
      obtain ⟨e0, e1, e2, e3, e4⟩ := id e
      have s0 := e3.1
      have hst : -2 ≤ stF W (TF v.2.2.1 m) s ∧ stF W (TF v.2.2.1 m) s ≤ 22 := by
        unfold stF
        split <;> omega
      refine aw_iload hX dX5_draw_44 rfl ?_
      refine aw_aload hX dX5_draw_46 rfl ?_
      refine aw_alen hX _ (by assumption) (by decide) rfl dX5_draw_48 ?_
      refine aw_icmp_ge hX 87 dX5_draw_49 (by decide) (fun c_49 => ?_) (fun c_49 => ?_)
      · have hj : j = 40 := lp_out h1 (by decide) c_49
        subst hj
        refine AW.ext (pF W v.2.2.1 m s) eb (fun i hi => h3 i hi) ?_
        rw [hset_hset]
        exact aw_vret hX rfl rfl rfl rfl dX5_draw_87 ⟨rfl, rfl⟩
      · have hj : j < 40 := lp_in h1 (by decide) c_49
        refine aw_aload hX dX5_draw_52 rfl ?_
        refine aw_iload hX dX5_draw_54 rfl ?_
        refine aw_iload hX dX5_draw_56 rfl ?_
        refine aw_iload hX dX5_draw_58 rfl ?_
        refine aw_icmp_ge hX 79 dX5_draw_60 (by decide) (fun c_60 => ?_) (fun c_60 => ?_)
        · refine aw_iconst hX (0) dX5_draw_79 (by decide) ?_
          have hx : (0 : Int32) = pF W v.2.2.1 m s j := by rw [pF, if_neg (by have := (nI_leI (a := W) (b := j) (by omega) (by omega)).mp c_60; omega)]
          rw [hx]
          refine aw_iastN hX (j) (by assumption) rfl hj (by first | decide | assumption) dX5_draw_80 ?_
          rw [hset_hset]
          refine aw_iinc hX (nI (j + 1)) dX5_draw_81 rfl (nI_1 j) ?_
          refine aw_goto hX 44 dX5_draw_84 (by decide) ?_
          exact ih (j + 1) (upd k j (pF W v.2.2.1 m s j)) hj (by omega) (upd_lo2 h3)
        · have hjW : j < W := by (have q := c_60; rw [nI_leI (by omega) (by omega)] at q; omega)
          refine aw_aload_n hX dX5_draw_63 rfl ?_
          refine gt_X5_30 hX dX5_draw_64 (by assumption) (by exact rfl) ?_
          refine aw_iload_n hX dX5_draw_67 rfl ?_
          refine aw_iload hX dX5_draw_68 rfl ?_
          refine aw_iload hX dX5_draw_70 rfl ?_
          refine aw_isub hX dX5_draw_72 ?_
          rw [iI_n j, iI_sub]
          refine aw_callVp hX RX5 rfl (tX7_stripBits _ _ _ e3 hm hS.1 hl2 hl3 hS.2.1 (by omega) (by omega)) rfl mf_X7_stripBits mi_X7_stripBits ms_X7_stripBits kl_X5_40 (by assumption) rfl rfl (by decide) (Nat.le_of_ble_eq_true rfl) dX5_draw_73 (by decide) ?_
          have hx : sbF v.2.2.1.1 v.2.2.1.2.1 (fun k => v.2.2.1.2.2.1 (m * 12 + k)) (v.2.2.1.2.2.2.1 m) 0 ((j : Int) - stF W (TF v.2.2.1 m) s) = pF W v.2.2.1 m s j := by rw [pF, if_pos hjW]
          rw [hx, ← iI_n j]
          refine aw_goto hX 80 dX5_draw_76 (by decide) ?_
          refine aw_iastN hX (j) (by assumption) rfl hj (by first | decide | assumption) dX5_draw_80 ?_
          rw [hset_hset]
          refine aw_iinc hX (nI (j + 1)) dX5_draw_81 rfl (nI_1 j) ?_
          refine aw_goto hX 44 dX5_draw_84 (by decide) ?_
          exact ih (j + 1) (upd k j (pF W v.2.2.1 m s j)) hj (by omega) (upd_lo2 h3)
  refine aw_aload_n hX dX5_draw_0 rfl ?_
  refine gt_X5_18 hX dX5_draw_1 (by assumption) (by exact rfl) ?_
  refine gt_X5_24 hX dX5_draw_4 (by assumption) (by exact rfl) ?_
  rw [hW]
  refine aw_istore hX dX5_draw_7 (Nat.le_of_ble_eq_true rfl) ?_
  refine aw_aload_n hX dX5_draw_9 rfl ?_
  refine gt_X5_30 hX dX5_draw_10 (by assumption) (by exact rfl) ?_
  refine aw_iload_n hX dX5_draw_13 rfl ?_
  refine aw_callVp hX RX5 rfl (tX7_stripColumns _ _ _ e3 hm hS.1 hl1 hl2 hl3) rfl mf_X7_stripColumns mi_X7_stripColumns ms_X7_stripColumns kl_X5_34 (by assumption) rfl rfl (by decide) (Nat.le_of_ble_eq_true rfl) dX5_draw_14 (by decide) ?_
  refine aw_istore hX dX5_draw_17 (Nat.le_of_ble_eq_true rfl) ?_
  refine aw_iload hX dX5_draw_19 rfl ?_
  refine aw_iload hX dX5_draw_21 rfl ?_
  refine aw_icmp_gt hX 38 dX5_draw_23 (by decide) (fun c_23 => ?_) (fun c_23 => ?_)
  · have hTW : ¬ TF v.2.2.1 m ≤ W := by have q : nI W < nI (TF v.2.2.1 m) := c_23; rw [nI_ltI (by omega) (by omega)] at q; omega
    refine aw_iload_n hX dX5_draw_38 rfl ?_
    refine AW.top (y := iI (stF W (TF v.2.2.1 m) s)) (by rw [stF, if_neg hTW]) ?_
    refine aw_istore hX dX5_draw_39 (Nat.le_of_ble_eq_true rfl) ?_
    refine aw_iconst hX (0) dX5_draw_41 (by decide) ?_
    refine aw_istore hX dX5_draw_42 (Nat.le_of_ble_eq_true rfl) ?_
    rw [← hset_self hb]
    exact loop 41 0 f (by decide) (by decide) (fun i hi => absurd hi (by omega))
  · have hTW : TF v.2.2.1 m ≤ W := by have q : ¬ nI W < nI (TF v.2.2.1 m) := c_23; rw [nI_ltI (by omega) (by omega)] at q; omega
    refine aw_iload hX dX5_draw_26 rfl ?_
    refine aw_iload hX dX5_draw_28 rfl ?_
    refine aw_isub hX dX5_draw_30 ?_
    rw [pk_sub hTW]
    refine aw_iconst hX (2) dX5_draw_31 (by decide) ?_
    refine aw_idiv hX dX5_draw_32 (by decide) ?_
    have hd : nI (W - TF v.2.2.1 m) / 2 = nI ((W - TF v.2.2.1 m) / 2) := pk_div (d := 2) (by omega) (by decide) (by decide)
    rw [hd]
    refine aw_iload_n hX dX5_draw_33 rfl ?_
    refine aw_iadd hX dX5_draw_34 ?_
    rw [iI_n ((W - TF v.2.2.1 m) / 2), iI_add, show (((W - TF v.2.2.1 m) / 2 : Nat) : Int) + s = stF W (TF v.2.2.1 m) s by rw [stF, if_pos hTW]]
    refine aw_goto hX 39 dX5_draw_35 (by decide) ?_
    refine aw_istore hX dX5_draw_39 (Nat.le_of_ble_eq_true rfl) ?_
    refine aw_iconst hX (0) dX5_draw_41 (by decide) ?_
    refine aw_istore hX dX5_draw_42 (Nat.le_of_ble_eq_true rfl) ?_
    rw [← hset_self hb]
    exact loop 41 0 f (by decide) (by decide) (fun i hi => absurd hi (by omega))
end PAINT
