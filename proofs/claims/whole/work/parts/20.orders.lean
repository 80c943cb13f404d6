/-! Orders: members, pictures, steps, fewest, size -/
abbrev OV : Type := IF × (Nat → IF) × (Nat → IF) × (Nat → IF) × Nat
def HGr (h : HP) (o b n k : Nat) (f : Nat → IF) : Prop := (∃ g : Nat → Option Nat, h o = some (cG 1 n g) ∧ ∀ i, i < n → g i = some (b + i)) ∧ ∀ i, i < n → h (b + i) = some (cI k (f i))
theorem HGr.sm {h h' : HP} {o b n k lo hi : Nat} {f : Nat → IF} (H : HGr h o b n k f) (s : Sm lo hi h h') (h1 : hi ≤ o ∨ o + 1 ≤ lo) (h2 : hi ≤ b ∨ b + n ≤ lo) : HGr h' o b n k f :=
  ⟨⟨H.1.choose, (s.at (by omega)).trans H.1.choose_spec.1, H.1.choose_spec.2⟩, fun i hi => (s.at (by omega)).trans (H.2 i hi)⟩
theorem HGr.put {h : HP} {o b n k i : Nat} {f : Nat → IF} (H : HGr h o b n k f) (g : IF) (hi : i < n) (ho : o < b) : HGr (hset h (b + i) (cI k g)) o b n k (va_up f i g) := by
  refine ⟨⟨H.1.choose, (hset_ne _ _ (by omega)).trans H.1.choose_spec.1, H.1.choose_spec.2⟩, fun j hj => ?_⟩
  by_cases e : j = i
  · subst e
    rw [va_up, if_pos rfl]
    exact hset_eq _ _ _
  · rw [va_up, if_neg e]
    exact (hset_ne _ _ (by omega)).trans (H.2 j hj)
def HOrd (h : HP) (a : Nat) (O : OV) : Prop :=
  h a = some (cO 4 [.ref (a + 1), .ref (a + 2), .ref (a + 9), .ref (a + 16), .int (nI O.2.2.2.2)]) ∧ h (a + 1) = some (cI 6 O.1) ∧ HGr h (a + 2) (a + 3) 6 40 O.2.1 ∧ HGr h (a + 9) (a + 10) 6 6 O.2.2.1 ∧ HGr h (a + 16) (a + 17) 32 6 O.2.2.2.1
theorem HOrd.sm {h h' : HP} {a lo hi : Nat} {O : OV} (H : HOrd h a O) (s : Sm lo hi h h') (hq : hi ≤ a ∨ a + 49 ≤ lo) : HOrd h' a O :=
  ⟨(s.at (by omega)).trans H.1, (s.at (by omega)).trans H.2.1, H.2.2.1.sm s (by omega) (by omega), H.2.2.2.1.sm s (by omega) (by omega), H.2.2.2.2.sm s (by omega) (by omega)⟩
section ORD
variable {h : HP} {a : Nat} {O : OV}
theorem HGr.off {o b n k x : Nat} {f : Nat → IF} (H : HGr h o b n k f) (c : AC) (h1 : x ≠ o) (h2 : x < b ∨ b + n ≤ x) : HGr (hset h x c) o b n k f :=
  H.sm (lo := x) (hi := x + 1) (Sm.rf.set (Nat.le_refl _) (Nat.lt_succ_self _)) (by omega) (by omega)
theorem HOrd.a0 (H : HOrd h a O) (z : Nat) : HOrd (hset h a (cO 4 [.ref (a + 1), .ref (a + 2), .ref (a + 9), .ref (a + 16), .int (nI z)])) a (O.1, O.2.1, O.2.2.1, O.2.2.2.1, z) :=
  ⟨hset_eq _ _ _, (hset_ne _ _ (by omega)).trans H.2.1, H.2.2.1.off _ (by omega) (by omega), H.2.2.2.1.off _ (by omega) (by omega), H.2.2.2.2.off _ (by omega) (by omega)⟩
theorem HOrd.a1 (H : HOrd h a O) (f : IF) : HOrd (hset h (a + 1) (cI 6 f)) a (f, O.2) :=
  ⟨(hset_ne _ _ (by omega)).trans H.1, hset_eq _ _ _, H.2.2.1.off _ (by omega) (by omega), H.2.2.2.1.off _ (by omega) (by omega), H.2.2.2.2.off _ (by omega) (by omega)⟩
theorem HOrd.pic (H : HOrd h a O) {i : Nat} (hi : i < 6) (f : IF) : HOrd (hset h (a + 3 + i) (cI 40 f)) a (O.1, va_up O.2.1 i f, O.2.2) :=
  ⟨(hset_ne _ _ (by omega)).trans H.1, (hset_ne _ _ (by omega)).trans H.2.1, H.2.2.1.put f hi (by omega), H.2.2.2.1.off _ (by omega) (by omega), H.2.2.2.2.off _ (by omega) (by omega)⟩
theorem HOrd.stp (H : HOrd h a O) {i : Nat} (hi : i < 6) (f : IF) : HOrd (hset h (a + 10 + i) (cI 6 f)) a (O.1, O.2.1, va_up O.2.2.1 i f, O.2.2.2) :=
  ⟨(hset_ne _ _ (by omega)).trans H.1, (hset_ne _ _ (by omega)).trans H.2.1, H.2.2.1.off _ (by omega) (by omega), H.2.2.2.1.put f hi (by omega), H.2.2.2.2.off _ (by omega) (by omega)⟩
theorem HOrd.few (H : HOrd h a O) {i : Nat} (hi : i < 32) (f : IF) : HOrd (hset h (a + 17 + i) (cI 6 f)) a (O.1, O.2.1, O.2.2.1, va_up O.2.2.2.1 i f, O.2.2.2.2) :=
  ⟨(hset_ne _ _ (by omega)).trans H.1, (hset_ne _ _ (by omega)).trans H.2.1, H.2.2.1.off _ (by omega) (by omega), H.2.2.2.1.off _ (by omega) (by omega), H.2.2.2.2.put f hi (by omega)⟩
def wo (l r : Nat) : Nat := if r = 0 then l else if l / 2 ^ (r - 1) % 2 = 1 then l - 2 ^ (r - 1) else l
theorem wo_eq : ∀ l, l < 32 → ∀ r, r < 5 → nI l &&& (mk r ^^^ (-1)) = nI (wo l (r + 1)) := by decide +kernel
theorem wo_lt {l r : Nat} (h : l < 32) : wo l r < 32 := by
  unfold wo
  split
  · exact h
  · split
    · exact Nat.lt_of_le_of_lt (Nat.sub_le _ _) h
    · exact h
theorem ws_eq : ∀ z, z < 6 → mk z - 1 = nI (2 ^ z - 1) := by decide +kernel
theorem tX4_without (l : Launch) (E : EV) (n : Nat) (h : HP) {s r : Nat} (hs : s < 32) (hr : r < 6) : MX4_without l E n h [.int (nI s), .int (nI r)] (PR (.int (nI (wo s r))) h) := by
  refine AM.intro mf_X4_without (by simp [Value.category]) (Nat.le_of_ble_eq_true rfl) (fun X hl hE hnm hX => ?_)
  subst hl
  subst hE
  show AW X _ _ 0 0 0 [some (.int (nI s)), some (.int (nI r))] []
  refine aw_iload_n hX dX4_without_0 rfl ?_
  refine aw_if_le hX 16 dX4_without_1 (by decide) (fun c_1 => ?_) (fun c_1 => ?_)
  · have n_1 : r ≤ 0 := (nI_leI (a := r) (b := 0) (by omega) (by omega)).mp c_1
    refine aw_iload_n hX dX4_without_16 rfl ?_
    refine AW.top (y := nI (wo s r)) (by rw [wo, if_pos (by omega)]) ?_
    exact aw_iret hX rfl rfl rfl rfl dX4_without_17 (by exact ⟨rfl, rfl⟩)
  · have n_1 : ¬ r ≤ 0 := fun q => c_1 ((nI_leI (a := r) (b := 0) (by omega) (by omega)).mpr q)
    refine aw_iload_n hX dX4_without_4 rfl ?_
    refine aw_iconst hX (1) dX4_without_5 (by decide) ?_
    refine aw_iload_n hX dX4_without_6 rfl ?_
    refine aw_iconst hX (1) dX4_without_7 (by decide) ?_
    refine aw_isub hX dX4_without_8 ?_
    rw [show nI r - 1 = nI (r - 1) from pk_sub (b := 1) (by omega)]
    refine aw_ishl hX dX4_without_9 ?_
    refine aw_iconst hX (-1) dX4_without_10 (by decide) ?_
    refine aw_ixor hX dX4_without_11 ?_
    refine aw_iand hX dX4_without_12 ?_
    refine AW.top (y := nI (wo s r)) ((wo_eq s hs (r - 1) (by omega)).trans (by rw [show r - 1 + 1 = r by omega])) ?_
    refine aw_goto hX 17 dX4_without_13 (by decide) ?_
    exact aw_iret hX rfl rfl rfl rfl dX4_without_17 (by exact ⟨rfl, rfl⟩)
theorem tX4_wholeSet (l : Launch) (E : EV) (n : Nat) (H : HOrd h a O) (hz : O.2.2.2.2 < 6) : MX4_wholeSet l E n h [.ref a] (PR (.int (nI (2 ^ O.2.2.2.2 - 1))) h) := by
  obtain ⟨e0, e1, e2, e3, e4⟩ := H
  refine AM.intro mf_X4_wholeSet (by simp [Value.category]) (Nat.le_of_ble_eq_true rfl) (fun X hl hE hnm hX => ?_)
  subst hl
  subst hE
  show AW X _ _ 0 0 0 [some (.ref a)] []
  refine aw_iconst hX (1) dX4_wholeSet_0 (by decide) ?_
  refine aw_aload_n hX dX4_wholeSet_1 rfl ?_
  refine gt_X4_26 hX dX4_wholeSet_2 (by assumption) (by exact rfl) ?_
  refine aw_ishl hX dX4_wholeSet_5 ?_
  refine aw_iconst hX (1) dX4_wholeSet_6 (by decide) ?_
  refine aw_isub hX dX4_wholeSet_7 ?_
  exact aw_iret hX rfl rfl rfl rfl dX4_wholeSet_8 (by exact ⟨congrArg (fun x => some (Value.int x)) (ws_eq _ hz), rfl⟩)
/-- the flips by a next one -/
def fbF (st fe : Nat → IF) (last nx s : Nat) : Int32 := st last nx + fe (wo s nx) nx
theorem tX4_flipsBy (l : Launch) (E : EV) (n : Nat) (H : HOrd h a O) {last nx s : Nat} (hl : last < 6) (hn : nx < 6) (hs : s < 32) : MX4_flipsBy l E n h [.ref a, .int (nI last), .int (nI nx), .int (nI s)] (PR (.int (fbF O.2.2.1 O.2.2.2.1 last nx s)) h) := by
  obtain ⟨e0, e1, e2, ⟨⟨g3, e3, q3⟩, r3⟩, ⟨g4, e4, q4⟩, r4⟩ := H
  have hw := wo_lt (r := nx) hs
  have r3' := r3 last hl
  have r4' := r4 (wo s nx) hw
  refine AM.intro mf_X4_flipsBy (by simp [Value.category]) (Nat.le_of_ble_eq_true rfl) (fun X hl hE hnm hX => ?_)
  subst hl
  subst hE
  show AW X _ _ 0 0 0 [some (.ref a), some (.int (nI last)), some (.int (nI nx)), some (.int (nI s)), none, none] []
  refine aw_iload_n hX dX4_flipsBy_0 rfl ?_
  refine aw_iload_n hX dX4_flipsBy_1 rfl ?_
  refine aw_callSp hX RX4 rfl (tX4_without _ _ _ _ hs hn) rfl mf_X4_without mt_X4_without kl_X4_56 rfl (by decide) (Nat.le_of_ble_eq_true rfl) dX4_flipsBy_2 (by decide) ?_
  refine aw_istore hX dX4_flipsBy_5 (Nat.le_of_ble_eq_true rfl) ?_
  refine aw_iload_n hX dX4_flipsBy_7 rfl ?_
  refine aw_if_lt hX 43 dX4_flipsBy_8 (by decide) (fun c_8 => ?_) (fun c_8 => ?_)
  · exact absurd c_8 (nI_pos (by omega))
  · refine aw_iload_n hX dX4_flipsBy_11 rfl ?_
    refine aw_bipush hX (6) dX4_flipsBy_12 (by decide) ?_
    refine aw_icmp_ge hX 43 dX4_flipsBy_14 (by decide) (fun c_14 => ?_) (fun c_14 => ?_)
    · exact absurd c_14 (nI_ge (a := last) (b := 6) (by omega) (by decide))
    · refine aw_iload_n hX dX4_flipsBy_17 rfl ?_
      refine aw_if_lt hX 43 dX4_flipsBy_18 (by decide) (fun c_18 => ?_) (fun c_18 => ?_)
      · exact absurd c_18 (nI_pos (by omega))
      · refine aw_iload_n hX dX4_flipsBy_21 rfl ?_
        refine aw_bipush hX (6) dX4_flipsBy_22 (by decide) ?_
        refine aw_icmp_ge hX 43 dX4_flipsBy_24 (by decide) (fun c_24 => ?_) (fun c_24 => ?_)
        · exact absurd c_24 (nI_ge (a := nx) (b := 6) (by omega) (by decide))
        · refine aw_iload hX dX4_flipsBy_27 rfl ?_
          refine aw_if_lt hX 43 dX4_flipsBy_29 (by decide) (fun c_29 => ?_) (fun c_29 => ?_)
          · exact absurd c_29 (nI_pos (by omega))
          · refine aw_iload hX dX4_flipsBy_32 rfl ?_
            refine aw_bipush hX (32) dX4_flipsBy_34 (by decide) ?_
            refine aw_icmp_ge hX 43 dX4_flipsBy_36 (by decide) (fun c_36 => ?_) (fun c_36 => ?_)
            · exact absurd c_36 (nI_ge (a := wo s nx) (b := 32) (by omega) (by decide))
            · refine aw_iconst hX (1) dX4_flipsBy_39 (by decide) ?_
              refine aw_goto hX 44 dX4_flipsBy_40 (by decide) ?_
              refine aw_istore hX dX4_flipsBy_44 (Nat.le_of_ble_eq_true rfl) ?_
              refine aw_iload hX dX4_flipsBy_46 rfl ?_
              refine aw_if_eq hX 72 dX4_flipsBy_48 (by decide) (fun c_48 => ?_) (fun c_48 => ?_)
              · exact absurd c_48 (by decide)
              · refine aw_aload_n hX dX4_flipsBy_51 rfl ?_
                refine gt_X4_20 hX dX4_flipsBy_52 (by assumption) (by exact rfl) ?_
                refine aw_iload_n hX dX4_flipsBy_55 rfl ?_
                refine aw_aaldN hX (last) (by assumption) (by decide) rfl hl (by decide) (q3 _ hl) dX4_flipsBy_56 ?_
                refine aw_iload_n hX dX4_flipsBy_57 rfl ?_
                refine aw_ialdN hX (nx) (by assumption) rfl hn (by first | decide | assumption) dX4_flipsBy_58 ?_
                refine aw_aload_n hX dX4_flipsBy_59 rfl ?_
                refine gt_X4_23 hX dX4_flipsBy_60 (by assumption) (by exact rfl) ?_
                refine aw_iload hX dX4_flipsBy_63 rfl ?_
                refine aw_aaldN hX (wo s nx) (by assumption) (by decide) rfl hw (by decide) (q4 _ hw) dX4_flipsBy_65 ?_
                refine aw_iload_n hX dX4_flipsBy_66 rfl ?_
                refine aw_ialdN hX (nx) (by assumption) rfl hn (by first | decide | assumption) dX4_flipsBy_67 ?_
                refine aw_iadd hX dX4_flipsBy_68 ?_
                refine aw_goto hX 73 dX4_flipsBy_69 (by decide) ?_
                exact aw_iret hX rfl rfl rfl rfl dX4_flipsBy_73 (by exact ⟨rfl, rfl⟩)
/-- the best of the first k next ones, and its flips -/
def nbk (st fe : Nat → IF) (last s : Nat) : Nat → Nat × Int32
  | 0 => (0, 2147483647)
  | k + 1 => if wo s (k + 1) ≠ s ∧ fbF st fe last (k + 1) s < (nbk st fe last s k).2 then (k + 1, fbF st fe last (k + 1) s) else nbk st fe last s k
theorem nbk_le (st fe : Nat → IF) (last s : Nat) : ∀ k, (nbk st fe last s k).1 ≤ k
  | 0 => Nat.le_refl _
  | k + 1 => by
    rw [nbk]
    split
    · exact Nat.le_refl _
    · exact Nat.le_succ_of_le (nbk_le st fe last s k)
theorem tX4_nextBehind (l : Launch) (E : EV) (n : Nat) (H : HOrd h a O) (hz : O.2.2.2.2 < 6) {last s : Nat} (hl : last < 6) (hs : s < 32) : MX4_nextBehind l E n h [.ref a, .int (nI last), .int (nI s)] (PR (.int (nI (nbk O.2.2.1 O.2.2.2.1 last s O.2.2.2.2).1)) h) := by
  have e := H
  obtain ⟨e0, e1, e2, e3, e4⟩ := H
  refine AM.intro mf_X4_nextBehind (by simp [Value.category]) (Nat.le_of_ble_eq_true rfl) (fun X hl hE hnm hX => ?_)
  subst hl
  subst hE
  show AW X _ _ 0 0 0 [some (.ref a), some (.int (nI last)), some (.int (nI s)), none, none, none, none] []
  have loop : ∀ (g k : Nat) (x : Option Value), k ≤ O.2.2.2.2 → O.2.2.2.2 - k < g → AW X n h 0 0 9 [some (.ref a), some (.int (nI last)), some (.int (nI s)), some (.int (nI (nbk O.2.2.1 O.2.2.2.1 last s k).1)), some (.int (nbk O.2.2.1 O.2.2.2.1 last s k).2), some (.int (nI (k + 1))), x] [] := by
    intro g
    induction g with
    | zero => intro k x h1 h2; omega
    | succ g ih =>
      intro k x h1 h2
      have hws := wo_lt (r := k + 1) hs
      refine aw_iload hX dX4_nextBehind_9 rfl ?_
      refine aw_aload_n hX dX4_nextBehind_11 rfl ?_
      refine gt_X4_26 hX dX4_nextBehind_12 (by assumption) (by exact rfl) ?_
      refine aw_icmp_gt hX 58 dX4_nextBehind_15 (by decide) (fun c_15 => ?_) (fun c_15 => ?_)
      · have n_15 : O.2.2.2.2 < k + 1 := (nI_ltI (a := O.2.2.2.2) (b := k + 1) (by omega) (by omega)).mp c_15
        have n_15 : O.2.2.2.2 < k + 1 := (nI_ltI (by omega) (by omega)).mp c_15
        have hk : k = O.2.2.2.2 := by omega
        subst hk
        refine aw_iload_n hX dX4_nextBehind_58 rfl ?_
        exact aw_iret hX rfl rfl rfl rfl dX4_nextBehind_59 ⟨rfl, rfl⟩
      · have n_15 : ¬ O.2.2.2.2 < k + 1 := fun q => c_15 ((nI_ltI (a := O.2.2.2.2) (b := k + 1) (by omega) (by omega)).mpr q)
        refine aw_iload_n hX dX4_nextBehind_18 rfl ?_
        refine aw_iload hX dX4_nextBehind_19 rfl ?_
        refine aw_callSp hX RX4 rfl (tX4_without _ _ _ _ hs (by omega)) rfl mf_X4_without mt_X4_without kl_X4_56 rfl (by decide) (Nat.le_of_ble_eq_true rfl) dX4_nextBehind_21 (by decide) ?_
        refine aw_iload_n hX dX4_nextBehind_24 rfl ?_
        refine aw_icmp_eq hX 52 dX4_nextBehind_25 (by decide) (fun c_25 => ?_) (fun c_25 => ?_)
        · have n_25 : wo s (k + 1) = s := (nI_eq (a := wo s (k + 1)) (b := s) (by omega) (by omega)).mp c_25
          have hc : nbk O.2.2.1 O.2.2.2.1 last s (k + 1) = nbk O.2.2.1 O.2.2.2.1 last s k := by rw [nbk]; exact if_neg (fun q => q.1 n_25)
          have hi := ih (k + 1) x (by omega) (by omega)
          rw [hc] at hi
          refine aw_iinc hX (nI (k + 1 + 1)) dX4_nextBehind_52 rfl (nI_1 (k + 1)) ?_
          refine aw_goto hX 9 dX4_nextBehind_55 (by decide) ?_
          exact hi
        · have n_25 : ¬ wo s (k + 1) = s := fun q => c_25 ((nI_eq (a := wo s (k + 1)) (b := s) (by omega) (by omega)).mpr q)
          refine aw_aload_n hX dX4_nextBehind_28 rfl ?_
          refine aw_iload_n hX dX4_nextBehind_29 rfl ?_
          refine aw_iload hX dX4_nextBehind_30 rfl ?_
          refine aw_iload_n hX dX4_nextBehind_32 rfl ?_
          refine aw_callVp hX RX4 rfl (tX4_flipsBy _ _ _ e hl (by omega) hs) rfl mf_X4_flipsBy mi_X4_flipsBy ms_X4_flipsBy kl_X4_52 (by assumption) rfl rfl (by decide) (Nat.le_of_ble_eq_true rfl) dX4_nextBehind_33 (by decide) ?_
          refine aw_istore hX dX4_nextBehind_36 (Nat.le_of_ble_eq_true rfl) ?_
          refine aw_iload hX dX4_nextBehind_38 rfl ?_
          refine aw_iload hX dX4_nextBehind_40 rfl ?_
          refine aw_icmp_ge hX 52 dX4_nextBehind_42 (by decide) (fun c_42 => ?_) (fun c_42 => ?_)
          · have hc : nbk O.2.2.1 O.2.2.2.1 last s (k + 1) = nbk O.2.2.1 O.2.2.2.1 last s k := by rw [nbk]; exact if_neg (fun q => Int32.not_le.mpr q.2 c_42)
            have hi := ih (k + 1) (some (.int (fbF O.2.2.1 O.2.2.2.1 last (k + 1) s))) (by omega) (by omega)
            rw [hc] at hi
            refine aw_iinc hX (nI (k + 1 + 1)) dX4_nextBehind_52 rfl (nI_1 (k + 1)) ?_
            refine aw_goto hX 9 dX4_nextBehind_55 (by decide) ?_
            exact hi
          · have hc : nbk O.2.2.1 O.2.2.2.1 last s (k + 1) = (k + 1, fbF O.2.2.1 O.2.2.2.1 last (k + 1) s) := by rw [nbk]; exact if_pos ⟨n_25, Int32.not_le.mp c_42⟩
            have hi := ih (k + 1) (some (.int (fbF O.2.2.1 O.2.2.2.1 last (k + 1) s))) (by omega) (by omega)
            rw [hc] at hi
            refine aw_iload hX dX4_nextBehind_45 rfl ?_
            refine aw_istore_n hX dX4_nextBehind_47 (Nat.le_of_ble_eq_true rfl) ?_
            refine aw_iload hX dX4_nextBehind_48 rfl ?_
            refine aw_istore hX dX4_nextBehind_50 (Nat.le_of_ble_eq_true rfl) ?_
            refine aw_iinc hX (nI (k + 1 + 1)) dX4_nextBehind_52 rfl (nI_1 (k + 1)) ?_
            refine aw_goto hX 9 dX4_nextBehind_55 (by decide) ?_
            exact hi
  refine aw_iconst hX (0) dX4_nextBehind_0 (by decide) ?_
  refine aw_istore_n hX dX4_nextBehind_1 (Nat.le_of_ble_eq_true rfl) ?_
  refine aw_ldc hX kk_X4_80 dX4_nextBehind_2 ?_
  refine aw_istore hX dX4_nextBehind_4 (Nat.le_of_ble_eq_true rfl) ?_
  refine aw_iconst hX (1) dX4_nextBehind_6 (by decide) ?_
  refine aw_istore hX dX4_nextBehind_7 (Nat.le_of_ble_eq_true rfl) ?_
  exact loop (O.2.2.2.2 + 1) 0 _ (by omega) (by omega)
end ORD
