/-! the reference: a text is read -/
def AGL (y : Nat) (h h' : HP) : Prop := ∀ q, ¬ q = y → ¬ q = y + 1 → h' q = h q
theorem AGL.rf {y : Nat} {h : HP} : AGL y h h := fun _ _ _ => rfl
theorem AGL.set {y : Nat} {h h' : HP} (H : AGL y h h') (a : Nat) (c : AC) (ha : a = y ∨ a = y + 1) : AGL y h (hset h' a c) := fun q h1 h2 => (hset_ne _ _ (by omega)).trans (H q h1 h2)
theorem AGL.tr {y : Nat} {h h1 h2 : HP} (H : AGL y h h1) (G : AGL y h1 h2) : AGL y h h2 := fun q i1 i2 => (G q i1 i2).trans (H q i1 i2)
theorem AGL.sm {y : Nat} {h h' : HP} (H : AGL y h h') : Sm y (y + 13) h h' := by
  intro q hq
  exact H q (by omega) (by omega)
def hz (tx : Nat → Nat) (r i : Nat) : Int := if r = 0 then -1 else (tx i : Int)
theorem hz_s {tx : Nat → Nat} {r i : Nat} (h : ¬ r = 0) : hz tx r i = (tx i : Int) := if_neg h
theorem hz_in {tx : Nat → Nat} {len r i : Nat} (htx : ∀ j, j < 120 → tx j < 256) (hl : len ≤ 120) (hi : i + r = len) : -1 ≤ hz tx r i ∧ hz tx r i < 256 := by
  unfold hz
  split
  · decide
  · have := htx i (by omega)
    omega
theorem hz_eq {z : Int} (h : -1 ≤ z ∧ z < 256) {k : Int} (hk : 0 ≤ k ∧ k < 256) : iI z = iI k ↔ z = k := iI_inj (by omega) (by omega) (by omega) (by omega)
theorem hz_le {z : Int} (h : -1 ≤ z ∧ z < 256) {a b : Int} (hk : 0 ≤ a ∧ b < 256) (ha : a < 256) (hb : 0 ≤ b) : (iI a ≤ iI z ∧ iI z ≤ iI b) ↔ (a ≤ z ∧ z ≤ b) := by
  rw [iI_le (by omega) (by omega) (by omega) (by omega), iI_le (by omega) (by omega) (by omega) (by omega)]
def dgZ (z : Int) : Int := if 48 ≤ z ∧ z ≤ 57 then z - 48 else if 97 ≤ z ∧ z ≤ 102 then z - 87 else -1
theorem dg_F (c : Nat) : dgZ (c : Int) = dgF c := by
  unfold dgZ dgF
  by_cases a : 48 ≤ c ∧ c ≤ 57
  · rw [if_pos (by omega), if_pos a]
  · rw [if_neg (by omega), if_neg a]
    by_cases b : 97 ≤ c ∧ c ≤ 102
    · rw [if_pos (by omega), if_pos b]
    · rw [if_neg (by omega), if_neg b]
theorem dgZ_in (z : Int) : -1 ≤ dgZ z ∧ dgZ z ≤ 15 := by
  unfold dgZ
  split
  · omega
  · split <;> omega
theorem tkF_0 {R : RV} {c : Nat} (h : ¬ c = 32) (hx : R.2.2.1 = 0) : tkF R c = tkS R c := by
  rw [tkF, if_neg h]
  simp [hx]
theorem tkF_1 {R : RV} {c : Nat} (h : ¬ c = 32) (hx : R.2.2.1 = 1) : tkF R c = tkE R c := by
  rw [tkF, if_neg h]
  simp [hx]
theorem tkF_2 {R : RV} {c : Nat} (h : ¬ c = 32) (hx : R.2.2.1 = 2) : tkF R c = tkA R c := by
  rw [tkF, if_neg h]
  simp [hx]
theorem tkF_3 {R : RV} {c : Nat} (h : ¬ c = 32) (hx : R.2.2.1 = 3) : tkF R c = tkB R c := by
  rw [tkF, if_neg h]
  simp [hx]
theorem tkF_4 {R : RV} {c : Nat} (h : ¬ c = 32) (hx : R.2.2.1 = 4) : tkF R c = tkC R c := by
  rw [tkF, if_neg h]
  simp [hx]
theorem er_fail {tx : Nat → Nat} {R : RV} {r i len : Nat} (hi : i + r = len) (h0 : r = 0 → ¬ R.2.2.1 = 0) (h1 : ¬ r = 0 → tkF R (tx i) = none) : erI (rdF tx r i R) len = nI i := by
  cases r with
  | zero =>
    show (if R.2.2.1 = 0 then (-1 : Int32) else nI len) = nI i
    rw [if_neg (h0 rfl), ← hi]
    rfl
  | succ r =>
    rw [rdF_n (h1 (Nat.succ_ne_zero r))]
    rfl
section REF15
variable {h : HP} {y : Nat} {s : IF} {v : PV} {W P o ps len sp om : Nat} {tx : Nat → Nat}
theorem HN.spt (H : HN h y s ps len sp om) (sp' : Nat) : HN (hset h y (oM y ps len sp' om)) y s ps len sp' om := ⟨hset_eq _ _ _, (hset_ne _ _ (by omega)).trans H.2⟩
theorem tX10_here (l : Launch) (E : EV) (n : Nat) (H : HN h y s ps len sp om) (ht : h (y + 5) = some (cI 120 (nF tx))) (hl : len ≤ 120) {r : Nat} (hr : sp + r = len) : MX10_here l E n h [.ref y] (PR (.int (iI (hz tx r sp))) h) := by
  obtain ⟨e0, e1⟩ := id H
  refine AM.intro mf_X10_here (by simp [Value.category]) (Nat.le_of_ble_eq_true rfl) (fun X hl hE hnm hX => ?_)
  subst hl
  subst hE
  show AW X _ _ 0 0 0 [some (.ref y)] []
  refine aw_aload_n hX dX10_here_0 rfl ?_
  refine gt_X10_116 hX dX10_here_1 (by assumption) (by exact rfl) ?_
  refine aw_aload_n hX dX10_here_4 rfl ?_
  refine gt_X10_113 hX dX10_here_5 (by assumption) (by exact rfl) ?_
  refine aw_icmp_ge hX 23 dX10_here_8 (by decide) (fun c_8 => ?_) (fun c_8 => ?_)
  · have n_8 : len ≤ sp := (nI_leI (a := len) (b := sp) (by omega) (by omega)).mp c_8
    refine aw_iconst hX (-1) dX10_here_23 (by decide) ?_
    refine AW.top (y := iI (hz tx r sp)) (by rw [hz, if_pos (by omega)]; rfl) ?_
    exact aw_iret hX rfl rfl rfl rfl dX10_here_24 (by exact ⟨rfl, rfl⟩)
  · have n_8 : ¬ len ≤ sp := fun q => c_8 ((nI_leI (a := len) (b := sp) (by omega) (by omega)).mpr q)
    refine aw_aload_n hX dX10_here_11 rfl ?_
    refine gt_X10_22 hX dX10_here_12 (by assumption) (by exact rfl) ?_
    refine aw_aload_n hX dX10_here_15 rfl ?_
    refine gt_X10_116 hX dX10_here_16 (by assumption) (by exact rfl) ?_
    refine aw_ialdN hX (sp) (by assumption) rfl (by omega) (by first | decide | assumption) dX10_here_19 ?_
    refine AW.top (y := iI (hz tx r sp)) (by rw [hz, if_neg (by omega)]; exact iI_n _) ?_
    refine aw_goto hX 24 dX10_here_20 (by decide) ?_
    exact aw_iret hX rfl rfl rfl rfl dX10_here_24 (by exact ⟨rfl, rfl⟩)
theorem tX10_skips (l : Launch) (E : EV) (n : Nat) (H : HN h y s ps len sp om) (ht : h (y + 5) = some (cI 120 (nF tx))) (hl : len ≤ 120) (htx : ∀ j, j < 120 → tx j < 256) {r : Nat} (hr : sp + r = len) : MX10_skips l E n h [.ref y] (fun a h' => a = none ∧ ∃ i' r', i' + r' = len ∧ r' ≤ r ∧ HN h' y s ps len i' om ∧ AGL y h h' ∧ ¬ hz tx r' i' = 32 ∧ ∀ R : RV, ¬ R.2.2.1 = 3 → rdF tx r sp R = rdF tx r' i' R) := by
  refine AM.intro mf_X10_skips (by simp [Value.category]) (Nat.le_of_ble_eq_true rfl) (fun X hl hE hnm hX => ?_)
  subst hl
  subst hE
  show AW X _ _ 0 0 0 [some (.ref y)] []
  have loop : ∀ (r' i : Nat) (hh : HP), i + r' = len → r' ≤ r → HN hh y s ps len i om → AGL y h hh → (∀ R : RV, ¬ R.2.2.1 = 3 → rdF tx r sp R = rdF tx r' i R) → AW X n hh 0 0 0 [some (.ref y)] [] := by
    intro r'
    induction r' with
    | zero =>
      intro i hh h1 h2 g ag hq
      obtain ⟨e0, e1⟩ := id g
      have ht' := (ag (y + 5) (by omega) (by omega)).trans ht
      refine aw_aload_n hX dX10_skips_0 rfl ?_
      refine aw_callVp hX RX10 rfl (tX10_here _ _ _ g ht' hl h1) rfl mf_X10_here mi_X10_here ms_X10_here kl_X10_119 (by assumption) rfl rfl (by decide) (Nat.le_of_ble_eq_true rfl) dX10_skips_1 (by decide) ?_
      refine aw_bipush hX (32) dX10_skips_4 (by decide) ?_
      refine aw_icmp_ne hX 22 dX10_skips_6 (by decide) (fun c_6 => ?_) (fun c_6 => ?_)
      · exact aw_vret hX rfl rfl rfl rfl dX10_skips_22 (by exact ⟨rfl, i, 0, h1, h2, g, ag, by rw [hz, if_pos rfl]; decide, hq⟩)
      · exact absurd c_6 (by rw [hz, if_pos rfl]; decide)
    | succ r' ih =>
      intro i hh h1 h2 g ag hq
      obtain ⟨e0, e1⟩ := id g
      have ht' := (ag (y + 5) (by omega) (by omega)).trans ht
      have hb := hz_in htx hl h1
      have he : iI (hz tx (r' + 1) i) = 32 ↔ hz tx (r' + 1) i = 32 := hz_eq hb (k := 32) (by decide)
      refine aw_aload_n hX dX10_skips_0 rfl ?_
      refine aw_callVp hX RX10 rfl (tX10_here _ _ _ g ht' hl h1) rfl mf_X10_here mi_X10_here ms_X10_here kl_X10_119 (by assumption) rfl rfl (by decide) (Nat.le_of_ble_eq_true rfl) dX10_skips_1 (by decide) ?_
      refine aw_bipush hX (32) dX10_skips_4 (by decide) ?_
      refine aw_icmp_ne hX 22 dX10_skips_6 (by decide) (fun c_6 => ?_) (fun c_6 => ?_)
      · exact aw_vret hX rfl rfl rfl rfl dX10_skips_22 (by exact ⟨rfl, i, r' + 1, h1, h2, g, ag, fun q => c_6 (he.mpr q), hq⟩)
      · refine aw_aload_n hX dX10_skips_9 rfl ?_
        refine aw_dup hX dX10_skips_10 rfl ?_
        refine gt_X10_116 hX dX10_skips_11 (by assumption) (by exact rfl) ?_
        refine aw_iconst hX (1) dX10_skips_14 (by decide) ?_
        refine aw_iadd hX dX10_skips_15 ?_
        rw [nI_1]
        refine pt_X10_116 hX dX10_skips_16 (by assumption) (Nat.le_of_ble_eq_true rfl) ?_
        dsimp only [List.set_cons_zero, List.set_cons_succ]
        refine aw_goto hX 0 dX10_skips_19 (by decide) ?_
        have h32 : tx i = 32 := by (have q := he.mp c_6; rw [hz_s (by omega)] at q; omega)
        exact ih (i + 1) _ (by omega) (by omega) (g.spt (i + 1)) (ag.set _ _ (Or.inl rfl)) (fun R hR => (hq R hR).trans (rdF_s (by rw [h32, tkF, if_pos rfl, if_neg hR])))
  exact loop r sp h hr (Nat.le_refl _) H AGL.rf (fun R _ => rfl)
theorem tX10_digitOf (l : Launch) (E : EV) (n : Nat) (h : HP) {z : Int} (hb : -1 ≤ z ∧ z < 256) : MX10_digitOf l E n h [.int (iI z)] (PR (.int (iI (dgZ z))) h) := by
  have h1 : (48 ≤ iI z ∧ iI z ≤ 57) ↔ (48 ≤ z ∧ z ≤ 57) := hz_le hb (a := 48) (b := 57) (by decide) (by decide) (by decide)
  have h2 : (97 ≤ iI z ∧ iI z ≤ 102) ↔ (97 ≤ z ∧ z ≤ 102) := hz_le hb (a := 97) (b := 102) (by decide) (by decide) (by decide)
  refine AM.intro mf_X10_digitOf (by simp [Value.category]) (Nat.le_of_ble_eq_true rfl) (fun X hl hE hnm hX => ?_)
  subst hl
  subst hE
  show AW X _ _ 0 0 0 [some (.int (iI z))] []
  refine aw_iload_n hX dX10_digitOf_0 rfl ?_
  refine aw_bipush hX (48) dX10_digitOf_1 (by decide) ?_
  refine aw_bipush hX (57) dX10_digitOf_3 (by decide) ?_
  refine aw_callSp hX RX10 rfl (tX10_in _ _ _ _ (iI z) 48 57) rfl mf_X10_in mt_X10_in kl_X10_96 rfl (by decide) (Nat.le_of_ble_eq_true rfl) dX10_digitOf_5 (by decide) ?_
  refine aw_if_eq hX 18 dX10_digitOf_8 (by decide) (fun c_8 => ?_) (fun c_8 => ?_)
  · refine aw_iload_n hX dX10_digitOf_18 rfl ?_
    refine aw_bipush hX (97) dX10_digitOf_19 (by decide) ?_
    refine aw_bipush hX (102) dX10_digitOf_21 (by decide) ?_
    refine aw_callSp hX RX10 rfl (tX10_in _ _ _ _ (iI z) 97 102) rfl mf_X10_in mt_X10_in kl_X10_96 rfl (by decide) (Nat.le_of_ble_eq_true rfl) dX10_digitOf_23 (by decide) ?_
    refine aw_if_eq hX 39 dX10_digitOf_26 (by decide) (fun c_26 => ?_) (fun c_26 => ?_)
    · refine aw_iconst hX (-1) dX10_digitOf_39 (by decide) ?_
      refine AW.top (y := iI (dgZ z)) (by rw [dgZ, if_neg (fun q => bI_eq0.mp c_8 (h1.mpr q)), if_neg (fun q => bI_eq0.mp c_26 (h2.mpr q))]; rfl) ?_
      exact aw_iret hX rfl rfl rfl rfl dX10_digitOf_40 (by exact ⟨rfl, rfl⟩)
    · refine aw_iload_n hX dX10_digitOf_29 rfl ?_
      refine aw_bipush hX (97) dX10_digitOf_30 (by decide) ?_
      refine aw_isub hX dX10_digitOf_32 ?_
      refine aw_bipush hX (10) dX10_digitOf_33 (by decide) ?_
      refine aw_iadd hX dX10_digitOf_35 ?_
      refine AW.top (y := iI (dgZ z)) (by rw [dgZ, if_neg (fun q => bI_eq0.mp c_8 (h1.mpr q)), if_pos (h2.mp (Decidable.not_not.mp (fun q => c_26 (bI_eq0.mpr q))))]; show iI z - iI 97 + iI 10 = _; rw [iI_sub, iI_add]; congr 1; omega) ?_
      refine aw_goto hX 40 dX10_digitOf_36 (by decide) ?_
      exact aw_iret hX rfl rfl rfl rfl dX10_digitOf_40 (by exact ⟨rfl, rfl⟩)
  · refine aw_iload_n hX dX10_digitOf_11 rfl ?_
    refine aw_bipush hX (48) dX10_digitOf_12 (by decide) ?_
    refine aw_isub hX dX10_digitOf_14 ?_
    refine AW.top (y := iI (dgZ z)) (by rw [dgZ, if_pos (h1.mp (Decidable.not_not.mp (fun q => c_8 (bI_eq0.mpr q))))]; exact iI_sub _ 48) ?_
    refine aw_goto hX 40 dX10_digitOf_15 (by decide) ?_
    exact aw_iret hX rfl rfl rfl rfl dX10_digitOf_40 (by exact ⟨rfl, rfl⟩)
/-- an item is read or not -/
def LPq (y : Nat) (h : HP) (v : PV) (W P o ps len om : Nat) (tx : Nat → Nat) (q0 : Option Nat × RV) (it r : Nat) : Option Value → HP → Prop := fun a h' => AGL y h h' ∧ ((a = some (.int 1) ∧ ∃ s' S' r' i' a' b', i' + r' = len ∧ r' < r ∧ HN h' y s' ps len i' om ∧ RI s' (v.1, v.2.1, S', v.2.2.2) W P o ∧ q0 = rdF tx r' i' (S', it + 1, 0, a', b')) ∨ (a = some (.int 0) ∧ ∃ s' i', HN h' y s' ps len i' om ∧ erI q0 len = nI i' ∧ i' ≤ len))
theorem RI.let {s' : IF} (R : RI s v W P o) {L nn : Nat} (hL : L < 26) (hn : nn ≤ 5) {co : IF} (k1 : ∀ q, q < 449 + 6 * L + 1 ∨ 449 + 6 * L + 6 ≤ q → s' q = s q) (k2 : ∀ q, q < L * 5 ∨ L * 5 + 5 ≤ q → co q = v.2.2.1.1 q) (k3 : ∀ q, B7 (co q)) (k4 : ∀ i, i < nn → s' (449 + 6 * L + 1 + i) = co (L * 5 + i)) : RI (upd s' (449 + 6 * L) (nI nn)) (v.1, v.2.1, (co, updN v.2.2.1.2.1 L nn, v.2.2.1.2.2), v.2.2.2) W P o := by
  obtain ⟨b1, b2, b3⟩ := R.2.1.2.2.1
  have h7 := R.1.2.2.2.2.2.2.1
  have h8 := R.1.2.2.2.2.2.2.2.1
  refine R.scr (S := (co, updN v.2.2.1.2.1 L nn, v.2.2.1.2.2)) (fun k hk => (pk_un (by omega)).trans (k1 k (by omega))) ((pk_un (by omega)).trans ((k1 4 (by omega)).trans R.1.2.2.1)) ⟨b1, fun c hc => ?_, b3⟩ k3 (fun l hl => ?_) (fun m hm => ?_)
  · show updN v.2.2.1.2.1 L nn c ≤ 5
    unfold updN
    split
    · exact hn
    · exact b2 c hc
  · show upd s' (449 + 6 * L) (nI nn) (449 + 6 * l) = nI (updN v.2.2.1.2.1 L nn l) ∧ ∀ i, i < updN v.2.2.1.2.1 L nn l → upd s' (449 + 6 * L) (nI nn) (449 + 6 * l + 1 + i) = co (l * 5 + i)
    by_cases e : l = L
    · subst e
      rw [uN_s]
      exact ⟨pk_us, fun i hi => (pk_un (by omega)).trans (k4 i hi)⟩
    · rw [uN_n e]
      obtain ⟨q1, q2⟩ := h7 l hl
      have h5 := b2 l hl
      exact ⟨(pk_un (by omega)).trans ((k1 _ (by omega)).trans q1), fun i hi => (pk_un (by omega)).trans ((k1 _ (by omega)).trans ((q2 i hi).trans (k2 _ (by omega)).symm))⟩
  · have hm' : m < v.2.2.1.2.2.2.2 := hm
    obtain ⟨q1, q2⟩ := h8 m hm
    obtain ⟨c1, c2, c3⟩ := b3 m hm
    exact ⟨(pk_un (by omega)).trans ((k1 _ (by omega)).trans q1), fun i hi => (pk_un (by omega)).trans ((k1 _ (by omega)).trans (q2 i hi))⟩
theorem tX10_isLetter (l : Launch) (E : EV) (n : Nat) (H : HN h y s ps len sp om) (ht : h (y + 5) = some (cI 120 (nF tx))) (hl : len ≤ 120) (htx : ∀ j, j < 120 → tx j < 256) {r : Nat} (hr : sp + (r + 1) = len) {L : Nat} (hL : L < 26) (hc : tx sp = 97 + L) (R : RI s v W P o) (it a b : Nat) : MX10_isLetter l E n h [.ref y] (LPq y h v W P o ps len om tx (rdF tx (r + 1) sp (v.2.2.1, it, 0, a, b)) it (r + 1)) := by
  have g := H
  obtain ⟨e0, e1⟩ := id g
  have hq0 : rdF tx (r + 1) sp (v.2.2.1, it, 0, a, b) = rdF tx r (sp + 1) ((v.2.2.1.1, updN v.2.2.1.2.1 L 0, v.2.2.1.2.2), it, 1, L, b) := by
    refine rdF_s ?_
    rw [hc, tkF_0 (by omega) rfl, tkS, if_neg (by omega), if_pos (by omega), show 97 + L - 97 = L by omega]
  generalize rdF tx (r + 1) sp (v.2.2.1, it, 0, a, b) = q0 at hq0 ⊢
  refine AM.intro mf_X10_isLetter (by simp [Value.category]) (Nat.le_of_ble_eq_true rfl) (fun X hl hE hnm hX => ?_)
  subst hl
  subst hE
  show AW X _ _ 0 0 0 [some (.ref y), none, none, none, none] []
  have loop : ∀ (z r2 i2 nn : Nat) (s' co : IF) (b2 : Nat) (hh : HP) (x3 x4 : Option Value), r2 < z → i2 + r2 = len → r2 ≤ r → nn ≤ 5 → HN hh y s' ps len i2 om → AGL y h hh → ¬ hz tx r2 i2 = 32 → q0 = rdF tx r2 i2 ((co, updN v.2.2.1.2.1 L nn, v.2.2.1.2.2), it, 2, L, b2) → (∀ q, q < 449 + 6 * L + 1 ∨ 449 + 6 * L + 6 ≤ q → s' q = s q) → (∀ q, q < L * 5 ∨ L * 5 + 5 ≤ q → co q = v.2.2.1.1 q) → (∀ q, B7 (co q)) → (∀ i, i < nn → s' (449 + 6 * L + 1 + i) = co (L * 5 + i)) → AW X n hh 0 0 56 [some (.ref y), some (.int (nI (449 + 6 * L))), some (.int (nI nn)), x3, x4] [] := by
    intro z
    induction z with
    | zero => intro r2 i2 nn s' co b2 hh x3 x4 h1; omega
    | succ z ih =>
      intro r2 i2 nn s' co b2 hh x3 x4 h1 h2 h3 h4 g ag h32 hq k1 k2 k3 k4
      obtain ⟨e0, e1⟩ := id g
      have ht' := (ag (y + 5) (by omega) (by omega)).trans ht
      have hb := hz_in htx hl h2
      have hd := dgZ_in (hz tx r2 i2)
      have he : iI (hz tx r2 i2) = 59 ↔ hz tx r2 i2 = 59 := hz_eq hb (k := 59) (by decide)
      have h07 : (0 ≤ iI (dgZ (hz tx r2 i2)) ∧ iI (dgZ (hz tx r2 i2)) ≤ 7) ↔ (0 ≤ dgZ (hz tx r2 i2) ∧ dgZ (hz tx r2 i2) ≤ 7) := hz_le (z := dgZ (hz tx r2 i2)) (by omega) (a := 0) (b := 7) (by decide) (by decide) (by decide)
      have nz : ¬ r2 = 0 → ¬ tx i2 = 32 := fun q z => h32 (by rw [hz_s q, z]; rfl)
      have fail : (nn = 0 ∨ ¬ hz tx r2 i2 = 59) → (nn = 5 ∨ ¬ (0 ≤ dgZ (hz tx r2 i2) ∧ dgZ (hz tx r2 i2) ≤ 7)) → erI q0 len = nI i2 := fun q1 q2 => by
        rw [hq]
        refine er_fail h2 (fun _ => by show ¬ (2 : Nat) = 0; decide) (fun r0 => ?_)
        rw [hz_s r0] at q1 q2
        rw [dg_F] at q2
        rw [tkF_2 (nz r0) rfl, tkA]
        show (if tx i2 = 59 ∧ 0 < updN v.2.2.1.2.1 L nn L then _ else if updN v.2.2.1.2.1 L nn L < 5 ∧ 0 ≤ dgF (tx i2) ∧ dgF (tx i2) ≤ 7 then _ else none) = none
        rw [uN_s, if_neg (by omega), if_neg (by omega)]
      have body : (nn = 0 ∨ ¬ hz tx r2 i2 = 59) → AW X n hh 0 0 69 [some (.ref y), some (.int (nI (449 + 6 * L))), some (.int (nI nn)), x3, x4] [] := by
        intro hne
        have next : ¬ nn = 5 → (0 ≤ dgZ (hz tx r2 i2) ∧ dgZ (hz tx r2 i2) ≤ 7) → AW X n hh 0 0 94 [some (.ref y), some (.int (nI (449 + 6 * L))), some (.int (nI nn)), some (.int (iI (dgZ (hz tx r2 i2)))), x4] [] := by
          intro hn5 hdg
          obtain ⟨r3, rfl⟩ : ∃ r3, r2 = r3 + 1 := by
            cases r2 with
            | zero => exact absurd hdg.1 (by rw [hz, if_pos rfl]; decide)
            | succ r3 => exact ⟨r3, rfl⟩
          have h2' : i2 + 1 + r3 = len := by omega
          have hz2 : hz tx (r3 + 1) i2 = (tx i2 : Int) := hz_s (by omega)
          rw [hz2, dg_F] at hdg ⊢
          have hq1 : q0 = rdF tx r3 (i2 + 1) ((co, updN v.2.2.1.2.1 L nn, v.2.2.1.2.2), it, 3, L, (dgF (tx i2)).toNat) := by
            refine hq.trans (rdF_s ?_)
            rw [hz2] at hne
            rw [tkF_2 (nz (by omega)) rfl, tkA]
            show (if tx i2 = 59 ∧ 0 < updN v.2.2.1.2.1 L nn L then _ else if updN v.2.2.1.2.1 L nn L < 5 ∧ 0 ≤ dgF (tx i2) ∧ dgF (tx i2) ≤ 7 then _ else none) = _
            rw [uN_s, if_neg (by omega), if_pos (by omega)]
          have hb1 := hz_in htx hl h2'
          have hd1 := dgZ_in (hz tx r3 (i2 + 1))
          have h0 : (0 : Int32) ≤ iI (dgZ (hz tx r3 (i2 + 1))) ↔ 0 ≤ dgZ (hz tx r3 (i2 + 1)) := iI_le (a := 0) (by decide) (by decide) (by omega) (by omega)
          refine aw_aload_n hX dX10_isLetter_94 rfl ?_
          refine aw_dup hX dX10_isLetter_95 rfl ?_
          refine gt_X10_116 hX dX10_isLetter_96 (by assumption) (by exact rfl) ?_
          refine aw_iconst hX (1) dX10_isLetter_99 (by decide) ?_
          refine aw_iadd hX dX10_isLetter_100 ?_
          rw [nI_1]
          refine pt_X10_116 hX dX10_isLetter_101 (by assumption) (Nat.le_of_ble_eq_true rfl) ?_
          dsimp only [List.set_cons_zero, List.set_cons_succ]
          have g := g.spt (i2 + 1)
          have ag := ag.set y (oM y ps len (i2 + 1) om) (Or.inl rfl)
          have ht' := (ag (y + 5) (by omega) (by omega)).trans ht
          obtain ⟨e0, e1⟩ := id g
          refine aw_aload_n hX dX10_isLetter_104 rfl ?_
          refine aw_callVp hX RX10 rfl (tX10_here _ _ _ g ht' hl h2') rfl mf_X10_here mi_X10_here ms_X10_here kl_X10_119 (by assumption) rfl rfl (by decide) (Nat.le_of_ble_eq_true rfl) dX10_isLetter_105 (by decide) ?_
          refine aw_callSp hX RX10 rfl (tX10_digitOf _ _ _ _ hb1) rfl mf_X10_digitOf mt_X10_digitOf kl_X10_126 rfl (by decide) (Nat.le_of_ble_eq_true rfl) dX10_isLetter_108 (by decide) ?_
          refine aw_istore hX dX10_isLetter_111 (Nat.le_of_ble_eq_true rfl) ?_
          refine aw_iload hX dX10_isLetter_113 rfl ?_
          refine aw_if_ge hX 120 dX10_isLetter_115 (by decide) (fun c_115 => ?_) (fun c_115 => ?_)
          · have hlo := h0.mp c_115
            obtain ⟨r4, rfl⟩ : ∃ r4, r3 = r4 + 1 := (by cases r3 with | zero => exact absurd hlo (by rw [hz, if_pos rfl]; decide) | succ r4 => exact ⟨r4, rfl⟩)
            have hz3 : hz tx (r4 + 1) (i2 + 1) = (tx (i2 + 1) : Int) := hz_s (by omega)
            rw [hz3, dg_F] at hlo hd1 ⊢
            have w32 : ¬ tx (i2 + 1) = 32 := fun q => by rw [q] at hlo; exact absurd hlo (by decide)
            have hq2 : q0 = rdF tx r4 (i2 + 1 + 1) ((upd co (L * 5 + nn) (nI ((dgF (tx i2)).toNat * 16 + (dgF (tx (i2 + 1))).toNat)), updN v.2.2.1.2.1 L (nn + 1), v.2.2.1.2.2), it, 2, L, (dgF (tx i2)).toNat) := hq1.trans (rdF_s (by rw [tkF_3 w32 rfl, tkB, if_pos hlo]; show some (((upd co (L * 5 + updN v.2.2.1.2.1 L nn L) _, updN (updN v.2.2.1.2.1 L nn) L (updN v.2.2.1.2.1 L nn L + 1), _) : SV), _) = _; rw [uN_s, uN_2]))
            refine aw_aload_n hX dX10_isLetter_120 rfl ?_
            refine aw_dup hX dX10_isLetter_121 rfl ?_
            refine gt_X10_116 hX dX10_isLetter_122 (by assumption) (by exact rfl) ?_
            refine aw_iconst hX (1) dX10_isLetter_125 (by decide) ?_
            refine aw_iadd hX dX10_isLetter_126 ?_
            rw [nI_1]
            refine pt_X10_116 hX dX10_isLetter_127 (by assumption) (Nat.le_of_ble_eq_true rfl) ?_
            dsimp only [List.set_cons_zero, List.set_cons_succ]
            have g := g.spt (i2 + 1 + 1)
            have ag := ag.set y (oM y ps len (i2 + 1 + 1) om) (Or.inl rfl)
            have ht' := (ag (y + 5) (by omega) (by omega)).trans ht
            obtain ⟨e0, e1⟩ := id g
            refine aw_aload_n hX dX10_isLetter_130 rfl ?_
            refine aw_callV0 hX RX10 rfl (tX10_skips _ _ _ g ht' hl htx (r := r4) (by omega)) rfl mf_X10_skips mi_X10_skips ms_X10_skips kl_X10_123 (by assumption) rfl rfl (by decide) (Nat.le_of_ble_eq_true rfl) dX10_isLetter_131 (by decide) (fun v_131 h_131 p_131 => ?_)
            obtain ⟨rfl, i5, r5, j1, j2, g, ag5, j3, j4⟩ := p_131
            have ag := ag.tr ag5
            obtain ⟨e0, e1⟩ := id g
            refine aw_aload_n hX dX10_isLetter_134 rfl ?_
            refine gt_X10_7 hX dX10_isLetter_135 (by assumption) (by exact rfl) ?_
            refine aw_iload_n hX dX10_isLetter_138 rfl ?_
            refine aw_iconst hX (1) dX10_isLetter_139 (by decide) ?_
            refine aw_iadd hX dX10_isLetter_140 ?_
            refine aw_iload_n hX dX10_isLetter_141 rfl ?_
            refine aw_iadd hX dX10_isLetter_142 ?_
            refine aw_bipush hX (16) dX10_isLetter_143 (by decide) ?_
            refine aw_iload_n hX dX10_isLetter_145 rfl ?_
            refine aw_imul hX dX10_isLetter_146 ?_
            refine aw_iload hX dX10_isLetter_147 rfl ?_
            refine aw_iadd hX dX10_isLetter_149 ?_
            refine AW.top (y := nI ((dgF (tx i2)).toNat * 16 + (dgF (tx (i2 + 1))).toNat)) (by rw [iI_nn hdg.1, iI_nn hlo, show (16 : Int32) = nI 16 from rfl, pk_mul, nI_add]; congr 2; exact Nat.mul_comm _ _) ?_
            refine aw_iastN hX (449 + 6 * L + 1 + nn) (by assumption) (by rw [nI_1, nI_add]) (by omega) (by first | decide | assumption) dX10_isLetter_150 ?_
            refine aw_iinc hX (nI (nn + 1)) dX10_isLetter_151 rfl (nI_1 nn) ?_
            refine aw_goto hX 56 dX10_isLetter_154 (by decide) ?_
            exact ih r5 i5 (nn + 1) (upd s' (449 + 6 * L + 1 + nn) (nI ((dgF (tx i2)).toNat * 16 + (dgF (tx (i2 + 1))).toNat))) (upd co (L * 5 + nn) (nI ((dgF (tx i2)).toNat * 16 + (dgF (tx (i2 + 1))).toNat))) (dgF (tx i2)).toNat _ _ _ (by omega) j1 (by omega) (by omega) (g.put _) (ag.set _ _ (Or.inr rfl)) j3 (hq2.trans (j4 _ (by show ¬ (2 : Nat) = 3; decide))) (fun q hq => (pk_un (by omega)).trans (k1 q hq)) (fun q hq => (pk_un (by omega)).trans (k2 q hq)) (fun q => by by_cases e : q = L * 5 + nn; (rw [e, pk_us]; exact B7_nI _ (by omega)); (rw [pk_un e]; exact k3 q)) (fun i hi => by by_cases e : i = nn; (subst e; exact pk_us.trans pk_us.symm); exact (pk_un (by omega)).trans ((k4 i (by omega)).trans (pk_un (by omega)).symm))
          · refine aw_iconst hX (0) dX10_isLetter_118 (by decide) ?_
            exact aw_zret hX rfl (by first | exact Or.inl rfl | exact Or.inr rfl | assumption) rfl rfl rfl dX10_isLetter_119 (by refine ⟨ag, Or.inr ⟨rfl, s', i2 + 1, g, ?_, by omega⟩⟩; rw [hq1]; refine er_fail h2' (fun _ => by show ¬ (3 : Nat) = 0; decide) (fun r0 => ?_); have w : ¬ 0 ≤ dgF (tx (i2 + 1)) := (by rw [← dg_F, ← hz_s (tx := tx) r0]; exact fun q => c_115 (h0.mpr q)); by_cases w32 : tx (i2 + 1) = 32; (rw [w32, tkF, if_pos rfl]; rfl); (rw [tkF_3 w32 rfl, tkB, if_neg w]))
        refine aw_aload_n hX dX10_isLetter_69 rfl ?_
        refine aw_callVp hX RX10 rfl (tX10_here _ _ _ g ht' hl h2) rfl mf_X10_here mi_X10_here ms_X10_here kl_X10_119 (by assumption) rfl rfl (by decide) (Nat.le_of_ble_eq_true rfl) dX10_isLetter_70 (by decide) ?_
        refine aw_callSp hX RX10 rfl (tX10_digitOf _ _ _ _ hb) rfl mf_X10_digitOf mt_X10_digitOf kl_X10_126 rfl (by decide) (Nat.le_of_ble_eq_true rfl) dX10_isLetter_73 (by decide) ?_
        refine aw_istore_n hX dX10_isLetter_76 (Nat.le_of_ble_eq_true rfl) ?_
        refine aw_iload_n hX dX10_isLetter_77 rfl ?_
        refine aw_iconst hX (5) dX10_isLetter_78 (by decide) ?_
        refine aw_icmp_eq hX 92 dX10_isLetter_79 (by decide) (fun c_79 => ?_) (fun c_79 => ?_)
        · have n_79 : nn = 5 := (nI_eq (a := nn) (b := 5) (by omega) (by omega)).mp c_79
          refine aw_iconst hX (0) dX10_isLetter_92 (by decide) ?_
          exact aw_zret hX rfl (Or.inl rfl) rfl rfl rfl dX10_isLetter_93 ⟨ag, Or.inr ⟨rfl, s', i2, g, fail hne (Or.inl n_79), by omega⟩⟩
        · have n_79 : ¬ nn = 5 := fun q => c_79 ((nI_eq (a := nn) (b := 5) (by omega) (by omega)).mpr q)
          refine aw_iload_n hX dX10_isLetter_82 rfl ?_
          refine aw_iconst hX (0) dX10_isLetter_83 (by decide) ?_
          refine aw_bipush hX (7) dX10_isLetter_84 (by decide) ?_
          refine aw_callSp hX RX10 rfl (tX10_in _ _ _ _ (iI (dgZ (hz tx r2 i2))) 0 7) rfl mf_X10_in mt_X10_in kl_X10_96 rfl (by decide) (Nat.le_of_ble_eq_true rfl) dX10_isLetter_86 (by decide) ?_
          refine aw_if_ne hX 94 dX10_isLetter_89 (by decide) (fun c_89 => ?_) (fun c_89 => ?_)
          · exact next n_79 (h07.mp (Decidable.not_not.mp (fun q => c_89 (bI_eq0.mpr q))))
          · refine aw_iconst hX (0) dX10_isLetter_92 (by decide) ?_
            exact aw_zret hX rfl (by first | exact Or.inl rfl | exact Or.inr rfl | assumption) rfl rfl rfl dX10_isLetter_93 (by exact ⟨ag, Or.inr ⟨rfl, s', i2, g, fail hne (Or.inr (fun q => bI_eq0.mp c_89 (h07.mpr q))), by omega⟩⟩)
      refine aw_iload_n hX dX10_isLetter_56 rfl ?_
      refine aw_if_eq hX 69 dX10_isLetter_57 (by decide) (fun c_57 => ?_) (fun c_57 => ?_)
      · have n_57 : nn = 0 := (nI_eq (a := nn) (b := 0) (by omega) (by omega)).mp c_57
        exact body (Or.inl n_57)
      · have n_57 : ¬ nn = 0 := fun q => c_57 ((nI_eq (a := nn) (b := 0) (by omega) (by omega)).mpr q)
        refine aw_aload_n hX dX10_isLetter_60 rfl ?_
        refine aw_callVp hX RX10 rfl (tX10_here _ _ _ g ht' hl h2) rfl mf_X10_here mi_X10_here ms_X10_here kl_X10_119 (by assumption) rfl rfl (by decide) (Nat.le_of_ble_eq_true rfl) dX10_isLetter_61 (by decide) ?_
        refine aw_bipush hX (59) dX10_isLetter_64 (by decide) ?_
        refine aw_icmp_eq hX 157 dX10_isLetter_66 (by decide) (fun c_66 => ?_) (fun c_66 => ?_)
        · have h59 := he.mp c_66
          obtain ⟨r3, rfl⟩ : ∃ r3, r2 = r3 + 1 := (by cases r2 with | zero => exact absurd h59 (by rw [hz, if_pos rfl]; decide) | succ r4 => exact ⟨r4, rfl⟩)
          have hc59 : tx i2 = 59 := (by rw [hz_s (by omega)] at h59; omega)
          have hq1 : q0 = rdF tx r3 (i2 + 1) ((co, updN v.2.2.1.2.1 L nn, v.2.2.1.2.2), it + 1, 0, L, b2) := hq.trans (rdF_s (by rw [hc59, tkF_2 (by decide) rfl, tkA]; show (if (59 : Nat) = 59 ∧ 0 < updN v.2.2.1.2.1 L nn L then _ else _) = _; rw [uN_s, if_pos (by omega)]))
          refine aw_aload_n hX dX10_isLetter_157 rfl ?_
          refine gt_X10_7 hX dX10_isLetter_158 (by assumption) (by exact rfl) ?_
          refine aw_iload_n hX dX10_isLetter_161 rfl ?_
          refine aw_iload_n hX dX10_isLetter_162 rfl ?_
          refine aw_iastN hX (449 + 6 * L) (by assumption) rfl (by omega) (by first | decide | assumption) dX10_isLetter_163 ?_
          have g := g.put (upd s' (449 + 6 * L) (nI nn))
          have ag := ag.set (y + 1) (cI 729 (upd s' (449 + 6 * L) (nI nn))) (Or.inr rfl)
          obtain ⟨e0, e1⟩ := id g
          refine aw_aload_n hX dX10_isLetter_164 rfl ?_
          refine aw_dup hX dX10_isLetter_165 rfl ?_
          refine gt_X10_116 hX dX10_isLetter_166 (by assumption) (by exact rfl) ?_
          refine aw_iconst hX (1) dX10_isLetter_169 (by decide) ?_
          refine aw_iadd hX dX10_isLetter_170 ?_
          rw [nI_1]
          refine pt_X10_116 hX dX10_isLetter_171 (by assumption) (Nat.le_of_ble_eq_true rfl) ?_
          dsimp only [List.set_cons_zero, List.set_cons_succ]
          refine aw_iconst hX (1) dX10_isLetter_174 (by decide) ?_
          exact aw_zret hX rfl (by first | exact Or.inl rfl | exact Or.inr rfl | assumption) rfl rfl rfl dX10_isLetter_175 (by exact ⟨ag.set _ _ (Or.inl rfl), Or.inl ⟨rfl, _, _, r3, i2 + 1, L, b2, by omega, by omega, g.spt (i2 + 1), R.let hL h4 k1 k2 k3 k4, hq1⟩⟩)
        · exact body (Or.inr (fun q => c_66 (he.mpr q)))
  refine aw_sipush hX (449) dX10_isLetter_0 (by decide) ?_
  refine aw_bipush hX (6) dX10_isLetter_3 (by decide) ?_
  refine aw_aload_n hX dX10_isLetter_5 rfl ?_
  refine aw_callVp hX RX10 rfl (tX10_here _ _ _ g ht hl hr) rfl mf_X10_here mi_X10_here ms_X10_here kl_X10_119 (by assumption) rfl rfl (by decide) (Nat.le_of_ble_eq_true rfl) dX10_isLetter_6 (by decide) ?_
  rw [show hz tx (r + 1) sp = ((97 + L : Nat) : Int) by rw [hz_s (by omega), hc]]
  refine aw_bipush hX (97) dX10_isLetter_9 (by decide) ?_
  refine aw_isub hX dX10_isLetter_11 ?_
  refine AW.top (y := nI L) (by show iI ((97 + L : Nat) : Int) - iI 97 = nI L; rw [iI_sub, iI_n]; congr 1; omega) ?_
  refine aw_imul hX dX10_isLetter_12 ?_
  refine aw_iadd hX dX10_isLetter_13 ?_
  rw [ix_l L]
  refine aw_istore_n hX dX10_isLetter_14 (Nat.le_of_ble_eq_true rfl) ?_
  refine aw_aload_n hX dX10_isLetter_15 rfl ?_
  refine aw_dup hX dX10_isLetter_16 rfl ?_
  refine gt_X10_116 hX dX10_isLetter_17 (by assumption) (by exact rfl) ?_
  refine aw_iconst hX (1) dX10_isLetter_20 (by decide) ?_
  refine aw_iadd hX dX10_isLetter_21 ?_
  rw [nI_1]
  refine pt_X10_116 hX dX10_isLetter_22 (by assumption) (Nat.le_of_ble_eq_true rfl) ?_
  dsimp only [List.set_cons_zero, List.set_cons_succ]
  have g := g.spt (sp + 1)
  have ag := AGL.set (AGL.rf (h := h)) y (oM y ps len (sp + 1) om) (Or.inl rfl)
  have ht' := (ag (y + 5) (by omega) (by omega)).trans ht
  obtain ⟨e0, e1⟩ := id g
  refine aw_aload_n hX dX10_isLetter_25 rfl ?_
  refine aw_callV0 hX RX10 rfl (tX10_skips _ _ _ g ht' hl htx (r := r) (by omega)) rfl mf_X10_skips mi_X10_skips ms_X10_skips kl_X10_123 (by assumption) rfl rfl (by decide) (Nat.le_of_ble_eq_true rfl) dX10_isLetter_26 (by decide) (fun v_26 h_26 p_26 => ?_)
  obtain ⟨rfl, i1, r1, j1, j2, g, ag5, j3, j4⟩ := p_26
  have ag := ag.tr ag5
  have ht' := (ag (y + 5) (by omega) (by omega)).trans ht
  obtain ⟨e0, e1⟩ := id g
  have hq1 := hq0.trans (j4 _ (by show ¬ (1 : Nat) = 3; decide))
  have he : iI (hz tx r1 i1) = 61 ↔ hz tx r1 i1 = 61 := hz_eq (hz_in htx hl j1) (k := 61) (by decide)
  refine aw_aload_n hX dX10_isLetter_29 rfl ?_
  refine aw_callVp hX RX10 rfl (tX10_here _ _ _ g ht' hl j1) rfl mf_X10_here mi_X10_here ms_X10_here kl_X10_119 (by assumption) rfl rfl (by decide) (Nat.le_of_ble_eq_true rfl) dX10_isLetter_30 (by decide) ?_
  refine aw_bipush hX (61) dX10_isLetter_33 (by decide) ?_
  refine aw_icmp_eq hX 40 dX10_isLetter_35 (by decide) (fun c_35 => ?_) (fun c_35 => ?_)
  · have h61 := he.mp c_35
    obtain ⟨r2, rfl⟩ : ∃ r2, r1 = r2 + 1 := (by cases r1 with | zero => exact absurd h61 (by rw [hz, if_pos rfl]; decide) | succ r4 => exact ⟨r4, rfl⟩)
    have hc61 : tx i1 = 61 := (by rw [hz_s (by omega)] at h61; omega)
    have hq2 : q0 = rdF tx r2 (i1 + 1) ((v.2.2.1.1, updN v.2.2.1.2.1 L 0, v.2.2.1.2.2), it, 2, L, b) := hq1.trans (rdF_s (by rw [hc61, tkF_1 (by decide) rfl, tkE, if_pos rfl]))
    refine aw_aload_n hX dX10_isLetter_40 rfl ?_
    refine aw_dup hX dX10_isLetter_41 rfl ?_
    refine gt_X10_116 hX dX10_isLetter_42 (by assumption) (by exact rfl) ?_
    refine aw_iconst hX (1) dX10_isLetter_45 (by decide) ?_
    refine aw_iadd hX dX10_isLetter_46 ?_
    rw [nI_1]
    refine pt_X10_116 hX dX10_isLetter_47 (by assumption) (Nat.le_of_ble_eq_true rfl) ?_
    dsimp only [List.set_cons_zero, List.set_cons_succ]
    have g := g.spt (i1 + 1)
    have ag := ag.set y (oM y ps len (i1 + 1) om) (Or.inl rfl)
    have ht' := (ag (y + 5) (by omega) (by omega)).trans ht
    obtain ⟨e0, e1⟩ := id g
    refine aw_aload_n hX dX10_isLetter_50 rfl ?_
    refine aw_callV0 hX RX10 rfl (tX10_skips _ _ _ g ht' hl htx (r := r2) (by omega)) rfl mf_X10_skips mi_X10_skips ms_X10_skips kl_X10_123 (by assumption) rfl rfl (by decide) (Nat.le_of_ble_eq_true rfl) dX10_isLetter_51 (by decide) (fun v_51 h_51 p_51 => ?_)
    obtain ⟨rfl, i3, r3, m1, m2, g, ag5, m3, m4⟩ := p_51
    have ag := ag.tr ag5
    refine aw_iconst hX (0) dX10_isLetter_54 (by decide) ?_
    refine aw_istore_n hX dX10_isLetter_55 (Nat.le_of_ble_eq_true rfl) ?_
    exact loop (r3 + 1) r3 i3 0 s v.2.2.1.1 b _ _ _ (by omega) m1 (by omega) (by decide) g ag m3 (hq2.trans (m4 _ (by show ¬ (2 : Nat) = 3; decide))) (fun q _ => rfl) (fun q _ => rfl) R.2.2.1 (fun i hi => absurd hi (Nat.not_lt_zero i))
  · refine aw_iconst hX (0) dX10_isLetter_38 (by decide) ?_
    exact aw_zret hX rfl (by first | exact Or.inl rfl | exact Or.inr rfl | assumption) rfl rfl rfl dX10_isLetter_39 (by refine ⟨ag, Or.inr ⟨rfl, s, i1, g, ?_, by omega⟩⟩; rw [hq1]; refine er_fail j1 (fun _ => by show ¬ (1 : Nat) = 0; decide) (fun r0 => ?_); rw [hz_s r0] at j3; rw [tkF_1 (by omega) rfl, tkE, if_neg (fun q => c_35 (he.mpr (by rw [hz_s r0, q]; rfl)))])
end REF15
