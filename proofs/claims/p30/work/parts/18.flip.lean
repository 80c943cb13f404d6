/-! Flipper -/
def dueP (v : PV) (j : Nat) : Int32 := if nI j < v.1.1 then (v.1.2.2.1 j ^^^ v.1.2.1 j) &&& (v.1.2.2.2.2.1 j ^^^ (-1)) else 0
/-- the columns with d due dots, from the left -/
def bkt (v : PV) (d c : Nat) : List Nat := (List.range c).filter (fun j => decide (bcF (dueP v j) = nI d))
def upL (v : PV) : Nat → List Nat
  | 0 => []
  | r + 1 => upL v r ++ bkt v (7 - r) 40
def ordF (v : PV) (o k : Nat) : Nat := if o = 2 then (upL v 8).getD k 0 else if o = 1 then 39 - k else k
/-- the dots of a column are tried, row by row, with u units -/
def fcF (due : Int32) (j : Nat) : Nat → Nat → PV → Nat → PV × Nat
  | 0, _, v, u => (v, u)
  | r + 1, i, v, u => if u = 0 then (v, u) else if due &&& mk i = 0 then fcF due j r (i + 1) v u else fcF due j r (i + 1) (tryF v j i) (u - 1)
/-- the columns in an order, with u units -/
def psF (o : Nat → Nat) : Nat → Nat → PV → Nat → PV × Nat
  | 0, _, v, u => (v, u)
  | r + 1, k, v, u => if u ≤ 1 then (v, u) else if dueP v (o k) = 0 then psF o r (k + 1) v u else psF o r (k + 1) (fcF (dueP v (o k)) (o k) 7 0 v (u - 1)).1 (fcF (dueP v (o k)) (o k) 7 0 v (u - 1)).2
/-- a second -/
def secF (v : PV) (P o : Nat) : PV :=
  ((psF (ordF v o) 40 0 v P).1.1, ((psF (ordF v o) 40 0 v P).1.2.1.1, (psF (ordF v o) 40 0 v P).1.2.1.2.1, v.2.1.2.2.1 + (nI P - nI (psF (ordF v o) 40 0 v P).2), v.2.1.2.2.2.1 + 1, upd v.2.1.2.2.2.2 (v.2.1.2.2.2.1 % 20) (nI P - nI (psF (ordF v o) 40 0 v P).2)), v.2.2)
/-- what a second leaves as it is until its end -/
def KP (v v' : PV) : Prop := v'.1.1 = v.1.1 ∧ v'.2.2 = v.2.2 ∧ v'.2.1.2.2 = v.2.1.2.2
theorem KP.tr {a b c : PV} (h : KP a b) (g : KP b c) : KP a c := ⟨g.1.trans h.1, g.2.1.trans h.2.1, g.2.2.trans h.2.2⟩
theorem KP.rf (a : PV) : KP a a := ⟨rfl, rfl, rfl⟩
theorem tryF_KP (v : PV) (j i : Nat) : KP v (tryF v j i) := by
  unfold tryF
  split <;> exact ⟨rfl, rfl, rfl⟩
theorem fcF_KP (due : Int32) (j : Nat) : ∀ (r i : Nat) (v : PV) (u : Nat), KP v (fcF due j r i v u).1 ∧ (fcF due j r i v u).2 ≤ u
  | 0, i, v, u => ⟨KP.rf v, Nat.le_refl _⟩
  | r + 1, i, v, u => by
    rw [fcF]
    split
    · exact ⟨KP.rf v, Nat.le_refl _⟩
    · split
      · exact fcF_KP due j r (i + 1) v u
      · have h := fcF_KP due j r (i + 1) (tryF v j i) (u - 1)
        exact ⟨(tryF_KP v j i).tr h.1, by omega⟩
theorem psF_KP (o : Nat → Nat) : ∀ (r k : Nat) (v : PV) (u : Nat), KP v (psF o r k v u).1 ∧ (psF o r k v u).2 ≤ u
  | 0, k, v, u => ⟨KP.rf v, Nat.le_refl _⟩
  | r + 1, k, v, u => by
    rw [psF]
    split
    · exact ⟨KP.rf v, Nat.le_refl _⟩
    · split
      · exact psF_KP o r (k + 1) v u
      · have h1 := fcF_KP (dueP v (o k)) (o k) 7 0 v (u - 1)
        have h2 := psF_KP o r (k + 1) (fcF (dueP v (o k)) (o k) 7 0 v (u - 1)).1 (fcF (dueP v (o k)) (o k) 7 0 v (u - 1)).2
        exact ⟨h1.1.tr h2.1, by omega⟩
def HFlip (h : HP) (a : Nat) : Prop := h a = some (cO 1 [.ref (a + 1)]) ∧ ∃ f, h (a + 1) = some (cI 40 f)
theorem HFlip.sm {h h' : HP} {a lo hi : Nat} (H : HFlip h a) (s : Sm lo hi h h') (hq : hi ≤ a ∨ a + 2 ≤ lo) : HFlip h' a :=
  ⟨(s.at (by omega)).trans H.1, H.2.choose, (s.at (by omega)).trans H.2.choose_spec⟩
theorem HFlip.a1 {h : HP} {a : Nat} (H : HFlip h a) (f : IF) : HFlip (hset h (a + 1) (cI 40 f)) a :=
  ⟨(hset_ne _ _ (by omega)).trans H.1, f, hset_eq _ _ _⟩
theorem upL_mono (v : PV) (r : Nat) : ∀ s, (upL v r).length ≤ (upL v (r + s)).length
  | 0 => Nat.le_refl _
  | s + 1 => by
    have h := upL_mono v r s
    show (upL v r).length ≤ (upL v (r + s) ++ bkt v (7 - (r + s)) 40).length
    rw [List.length_append]
    omega
theorem bkt_succ (v : PV) (d c : Nat) : bkt v d (c + 1) = if bcF (dueP v c) = nI d then bkt v d c ++ [c] else bkt v d c := by
  unfold bkt
  rw [List.range_succ, List.filter_append]
  split
  · rename_i h
    simp [h]
  · rename_i h
    simp [h]
theorem bkt_mono (v : PV) (d c : Nat) : ∀ s, (bkt v d c).length ≤ (bkt v d (c + s)).length
  | 0 => Nat.le_refl _
  | s + 1 => by
    have h := bkt_mono v d c s
    rw [← Nat.add_assoc, bkt_succ]
    split
    · rw [List.length_append]; omega
    · exact h
theorem getD_app {l : List Nat} {k x : Nat} (h : k < l.length) : (l ++ [x]).getD k 0 = l.getD k 0 := by
  rw [List.getD_eq_getElem?_getD, List.getD_eq_getElem?_getD, List.getElem?_append_left h]
theorem getD_app2 {l : List Nat} {x : Nat} : (l ++ [x]).getD l.length 0 = x := by
  rw [List.getD_eq_getElem?_getD, List.getElem?_append_right (Nat.le_refl _)]
  simp
theorem upd_snoc {f : IF} {l : List Nat} {c : Nat} (h : ∀ k, k < l.length → f k = nI (l.getD k 0)) : ∀ k, k < (l ++ [c]).length → upd f l.length (nI c) k = nI ((l ++ [c]).getD k 0) := fun k hk => by
  by_cases e : k = l.length
  · subst e
    rw [pk_us, getD_app2]
  · rw [List.length_append] at hk
    have hk2 : k < l.length := by
      have : k < l.length + 1 := hk
      omega
    rw [pk_un e, getD_app hk2]
    exact h k hk2
theorem lenlt {v : PV} {r c : Nat} (hlen : (upL v 8).length = 40) (hr : r ≤ 7) (hc : c < 40) (hs : bkt v (7 - r) (c + 1) = bkt v (7 - r) c ++ [c]) : (upL v r ++ bkt v (7 - r) c).length < 40 := by
  have h1 := upL_mono v (r + 1) (7 - r)
  rw [show r + 1 + (7 - r) = 8 by omega, hlen] at h1
  have h2 := bkt_mono v (7 - r) (c + 1) (40 - (c + 1))
  rw [show c + 1 + (40 - (c + 1)) = 40 by omega, hs, List.length_append] at h2
  have h3 : (upL v (r + 1)).length = (upL v r).length + (bkt v (7 - r) 40).length := by
    show (upL v r ++ bkt v (7 - r) 40).length = _
    rw [List.length_append]
  rw [List.length_append]
  have h4 : [c].length = 1 := rfl
  omega
theorem dueP_w {v : PV} {j : Nat} (h : ¬ dueP v j = 0) : nI j < v.1.1 := by
  unfold dueP at h
  split at h
  · assumption
  · exact absurd rfl h
section FLIP
variable {h : HP} {p a : Nat} {v : PV}
theorem tX1_arrangeByDueDots (l : Launch) (E : EV) (n : Nat) (H : HD h p v.1) {f : IF} (ha : h a = some (cO 1 [.ref (a + 1)])) (hf : h (a + 1) = some (cI 40 f)) (hd : a + 2 ≤ p ∨ p + 6 ≤ a) (hlen : (upL v 8).length = 40) : MX1_arrangeByDueDots l E n h [.ref a, .ref p] (fun r h' => r = none ∧ h' = hset h (a + 1) (cI 40 (nF (fun k => (upL v 8).getD k 0)))) := by
  have d0 := H.1
  refine AM.intro mf_X1_arrangeByDueDots (by simp [Value.category]) (Nat.le_of_ble_eq_true rfl) (fun X hl hE hnm hX => ?_)
  subst hl
  subst hE
  show AW X _ _ 0 0 0 [some (.ref a), some (.ref p), none, none, none, none] []
  have inner : ∀ (g r c : Nat) (f : IF) (x : Option Value) (_ : ∀ (f : IF) (y z : Option Value), (∀ k, k < (upL v (r + 1)).length → f k = nI ((upL v (r + 1)).getD k 0)) → AW X n (hset h (a + 1) (cI 40 f)) 0 0 5 [some (.ref a), some (.ref p), some (.int (nI (upL v (r + 1)).length)), some (.int (iI (7 - ((r + 1 : Nat) : Int)))), y, z] []), r ≤ 7 → c ≤ 40 → 40 - c < g → (∀ k, k < (upL v r ++ bkt v (7 - r) c).length → f k = nI ((upL v r ++ bkt v (7 - r) c).getD k 0)) → AW X n (hset h (a + 1) (cI 40 f)) 0 0 12 [some (.ref a), some (.ref p), some (.int (nI (upL v r ++ bkt v (7 - r) c).length)), some (.int (iI (7 - (r : Int)))), some (.int (nI c)), x] [] := by
    intro g
    induction g with
    | zero => intro r c f x kk h1 h2 h3; omega
    | succ g ih =>
      intro r c f x kk h1 h2 h3 h4
      have H' : HD (hset h (a + 1) (cI 40 f)) p v.1 := HDots.off H _ (by omega)
      have e0 := H'.1
      have ea := (hset_ne h (q := a) (a := a + 1) (cI 40 f) (by omega)).trans ha
      have eb := hset_eq h (a + 1) (cI 40 f)
      have e7 : iI (7 - (r : Int)) = nI (7 - r) := by rw [iI_n]; congr 1; omega
      refine aw_iload hX dX1_arrangeByDueDots_12 rfl ?_
      refine aw_bipush hX (40) dX1_arrangeByDueDots_14 (by decide) ?_
      refine aw_icmp_ge hX 67 dX1_arrangeByDueDots_16 (by decide) (fun c_16 => ?_) (fun c_16 => ?_)
      · have hc : c = 40 := lp_out h2 (by decide) c_16
        subst hc
        refine aw_iinc hX (iI (7 - ((r + 1 : Nat) : Int))) dX1_arrangeByDueDots_67 rfl (by show iI (7 - (r : Int)) + iI (-1) = _; rw [iI_add]; congr 1; omega) ?_
        refine aw_goto hX 5 dX1_arrangeByDueDots_70 (by decide) ?_
        exact kk f _ _ h4
      · have hc : c < 40 := lp_in h2 (by decide) c_16
        refine aw_aload_n hX dX1_arrangeByDueDots_19 rfl ?_
        refine aw_iload hX dX1_arrangeByDueDots_20 rfl ?_
        refine aw_callVp hX RX1 rfl (tX0_dueBits _ _ _ H' hc) rfl mf_X0_dueBits mi_X0_dueBits ms_X0_dueBits kl_X1_28 (by assumption) rfl rfl (by decide) (Nat.le_of_ble_eq_true rfl) dX1_arrangeByDueDots_22 (by decide) ?_
        refine aw_callSp hX RX1 rfl (tJ6_bitCount _ _ _ _ _) rfl mf_J6_bitCount_0f7a4 mt_J6_bitCount_0f7a4 kl_X1_56 rfl (by decide) (Nat.le_of_ble_eq_true rfl) dX1_arrangeByDueDots_25 (by decide) ?_
        refine aw_iload_n hX dX1_arrangeByDueDots_28 rfl ?_
        refine aw_icmp_ne hX 36 dX1_arrangeByDueDots_29 (by decide) (fun c_29 => ?_) (fun c_29 => ?_)
        · have hs := bkt_succ v (7 - r) c
          rw [if_neg (fun q => c_29 (q.trans e7.symm))] at hs
          refine aw_iconst hX (0) dX1_arrangeByDueDots_36 (by decide) ?_
          refine aw_istore hX dX1_arrangeByDueDots_37 (Nat.le_of_ble_eq_true rfl) ?_
          refine aw_iload hX dX1_arrangeByDueDots_39 rfl ?_
          refine aw_if_eq hX 61 dX1_arrangeByDueDots_41 (by decide) (fun _ => ?_) (fun c_41 => absurd rfl c_41)
          refine aw_iinc hX (nI (c + 1)) dX1_arrangeByDueDots_61 rfl (nI_1 c) ?_
          refine aw_goto hX 12 dX1_arrangeByDueDots_64 (by decide) ?_
          have hi := ih r (c + 1) f (some (.int 0)) kk h1 hc (by omega) (by rw [hs]; exact h4)
          rw [hs] at hi
          exact hi
        · have hs := bkt_succ v (7 - r) c
          rw [if_pos (show bcF (dueP v c) = nI (7 - r) from Eq.trans c_29 e7)] at hs
          have hll : (upL v r ++ bkt v (7 - r) c).length < 40 := lenlt hlen h1 hc hs
          refine aw_iconst hX (1) dX1_arrangeByDueDots_32 (by decide) ?_
          refine aw_goto hX 37 dX1_arrangeByDueDots_33 (by decide) ?_
          refine aw_istore hX dX1_arrangeByDueDots_37 (Nat.le_of_ble_eq_true rfl) ?_
          refine aw_iload hX dX1_arrangeByDueDots_39 rfl ?_
          refine aw_if_eq hX 61 dX1_arrangeByDueDots_41 (by decide) (fun c_41 => absurd c_41 (by decide)) (fun _ => ?_)
          refine aw_iload_n hX dX1_arrangeByDueDots_44 rfl ?_
          refine aw_bipush hX (40) dX1_arrangeByDueDots_45 (by decide) ?_
          refine aw_icmp_ge hX 61 dX1_arrangeByDueDots_47 (by decide) (fun c_47 => absurd c_47 (nI_ge hll (by decide))) (fun _ => ?_)
          refine aw_aload_n hX dX1_arrangeByDueDots_50 rfl ?_
          refine gt_X1_9 hX dX1_arrangeByDueDots_51 ea (by exact rfl) ?_
          refine aw_iload_n hX dX1_arrangeByDueDots_54 rfl ?_
          refine aw_iload hX dX1_arrangeByDueDots_55 rfl ?_
          refine aw_iastN hX (upL v r ++ bkt v (7 - r) c).length eb rfl hll (by decide) dX1_arrangeByDueDots_57 ?_
          rw [hset_hset]
          refine aw_iinc hX (nI ((upL v r ++ bkt v (7 - r) c).length + 1)) dX1_arrangeByDueDots_58 rfl (nI_1 _) ?_
          refine aw_iinc hX (nI (c + 1)) dX1_arrangeByDueDots_61 rfl (nI_1 c) ?_
          refine aw_goto hX 12 dX1_arrangeByDueDots_64 (by decide) ?_
          have hap : upL v r ++ bkt v (7 - r) (c + 1) = (upL v r ++ bkt v (7 - r) c) ++ [c] := by rw [hs, List.append_assoc]
          have hi := ih r (c + 1) (upd f (upL v r ++ bkt v (7 - r) c).length (nI c)) (some (.int 1)) kk h1 hc (by omega) (by rw [hap]; exact upd_snoc h4)
          have hl2 : ((upL v r ++ bkt v (7 - r) c) ++ [c]).length = (upL v r ++ bkt v (7 - r) c).length + 1 := by rw [List.length_append (as := upL v r ++ bkt v (7 - r) c)]; rfl
          rw [hap, hl2] at hi
          exact hi
  have loop : ∀ (g r : Nat) (f : IF) (y z : Option Value), r ≤ 8 → 8 - r < g → (∀ k, k < (upL v r).length → f k = nI ((upL v r).getD k 0)) → AW X n (hset h (a + 1) (cI 40 f)) 0 0 5 [some (.ref a), some (.ref p), some (.int (nI (upL v r).length)), some (.int (iI (7 - (r : Int)))), y, z] [] := by
    intro g
    induction g with
    | zero => intro r f y z h1 h2; omega
    | succ g ih =>
      intro r f y z h1 h2 h3
      have eb := hset_eq h (a + 1) (cI 40 f)
      have hlt : iI (7 - (r : Int)) < 0 ↔ 7 - (r : Int) < 0 := iI_lt (b := 0) (by omega) (by omega) (by decide) (by decide)
      refine aw_iload_n hX dX1_arrangeByDueDots_5 rfl ?_
      refine aw_if_lt hX 73 dX1_arrangeByDueDots_6 (by decide) (fun c_6 => ?_) (fun c_6 => ?_)
      · have hr : r = 8 := by have q := hlt.mp c_6; omega
        subst hr
        refine AW.ext (nF (fun k => (upL v 8).getD k 0)) eb (fun i hi => h3 i (by omega)) ?_
        rw [hset_hset]
        exact aw_vret hX rfl rfl rfl rfl dX1_arrangeByDueDots_73 ⟨rfl, rfl⟩
      · have hr : r ≤ 7 := by have q : ¬ 7 - (r : Int) < 0 := fun q => c_6 (hlt.mpr q); omega
        refine aw_iconst hX (0) dX1_arrangeByDueDots_9 (by decide) ?_
        refine aw_istore hX dX1_arrangeByDueDots_10 (Nat.le_of_ble_eq_true rfl) ?_
        have hi := inner 41 r 0 f z (fun f y z hf => ih (r + 1) f y z (by omega) (by omega) hf) hr (by decide) (by decide) (by intro k hk; rw [show bkt v (7 - r) 0 = [] from rfl, List.append_nil] at hk ⊢; exact h3 k hk)
        rw [show bkt v (7 - r) 0 = [] from rfl, List.append_nil] at hi
        exact hi
  refine aw_iconst hX (0) dX1_arrangeByDueDots_0 (by decide) ?_
  refine aw_istore_n hX dX1_arrangeByDueDots_1 (Nat.le_of_ble_eq_true rfl) ?_
  refine aw_bipush hX (7) dX1_arrangeByDueDots_2 (by decide) ?_
  refine aw_istore_n hX dX1_arrangeByDueDots_4 (Nat.le_of_ble_eq_true rfl) ?_
  rw [← hset_self hf]
  exact loop 9 0 f _ _ (by decide) (by decide) (fun k hk => absurd hk (Nat.not_lt_zero k))
theorem tX1_arrange (l : Launch) (E : EV) (n : Nat) (H : HD h p v.1) (hF : HFlip h a) (hd : a + 2 ≤ p ∨ p + 6 ≤ a) (hlen : (upL v 8).length = 40) {o : Nat} (ho : o ≤ 2) : MX1_arrange l E n h [.ref a, .ref p, .int (nI o)] (fun r h' => r = none ∧ h' = hset h (a + 1) (cI 40 (nF (ordF v o)))) := by
  have d0 := H.1
  obtain ⟨ha, f0, hf⟩ := hF
  by_cases h2 : o = 2
  · subst h2
    refine AM.intro mf_X1_arrange (by simp [Value.category]) (Nat.le_of_ble_eq_true rfl) (fun X hl hE hnm hX => ?_)
    subst hl
    subst hE
    show AW X _ _ 0 0 0 [some (.ref a), some (.ref p), some (.int (nI 2)), none] []
    refine aw_iload_n hX dX1_arrange_0 rfl ?_
    refine aw_iconst hX (2) dX1_arrange_1 (by decide) ?_
    refine aw_icmp_ne hX 11 dX1_arrange_2 (by decide) (fun c_2 => ?_) (fun c_2 => ?_)
    · exact absurd rfl c_2
    · refine aw_aload_n hX dX1_arrange_5 rfl ?_
      refine aw_aload_n hX dX1_arrange_6 rfl ?_
      refine aw_callV0 hX RX1 rfl (tX1_arrangeByDueDots (v := v) _ _ _ H ha hf hd hlen) rfl mf_X1_arrangeByDueDots mi_X1_arrangeByDueDots ms_X1_arrangeByDueDots kl_X1_52 (by assumption) rfl rfl (by decide) (Nat.le_of_ble_eq_true rfl) dX1_arrange_7 (by decide) (fun v_7 h_7 p_7 => ?_)
      obtain ⟨rfl, rfl⟩ := p_7
      exact aw_vret hX rfl rfl rfl rfl dX1_arrange_10 (by exact ⟨rfl, rfl⟩)
  · have h2' : ¬ nI o = 2 := fun q => h2 ((nI_eq (a := o) (b := 2) (by omega) (by decide)).mp q)
    refine AM.intro mf_X1_arrange (by simp [Value.category]) (Nat.le_of_ble_eq_true rfl) (fun X hl hE hnm hX => ?_)
    subst hl
    subst hE
    show AW X _ _ 0 0 0 [some (.ref a), some (.ref p), some (.int (nI o)), none] []
    have loop : ∀ (g k : Nat) (f : IF), k ≤ 40 → 40 - k < g → (∀ i, i < k → f i = nI (ordF v o i)) → AW X n (hset h (a + 1) (cI 40 f)) 0 0 13 [some (.ref a), some (.ref p), some (.int (nI o)), some (.int (nI k))] [] := by
      intro g
      induction g with
      | zero => intro k f h1 h2; omega
      | succ g ih =>
        intro k f h1 h3 h4
        have ea := (hset_ne h (q := a) (a := a + 1) (cI 40 f) (by omega)).trans ha
        have eb := hset_eq h (a + 1) (cI 40 f)
        refine aw_iload_n hX dX1_arrange_13 rfl ?_
        refine aw_bipush hX (40) dX1_arrange_14 (by decide) ?_
        refine aw_icmp_ge hX 44 dX1_arrange_16 (by decide) (fun c_16 => ?_) (fun c_16 => ?_)
        · have hk : k = 40 := lp_out h1 (by decide) c_16
          subst hk
          refine AW.ext (nF (ordF v o)) eb (fun i hi => h4 i hi) ?_
          rw [hset_hset]
          exact aw_vret hX rfl rfl rfl rfl dX1_arrange_44 ⟨rfl, rfl⟩
        · have hk : k < 40 := lp_in h1 (by decide) c_16
          refine aw_aload_n hX dX1_arrange_19 rfl ?_
          refine gt_X1_9 hX dX1_arrange_20 (by assumption) (by exact rfl) ?_
          refine aw_iload_n hX dX1_arrange_23 rfl ?_
          refine aw_iload_n hX dX1_arrange_24 rfl ?_
          refine aw_iconst hX (1) dX1_arrange_25 (by decide) ?_
          refine aw_icmp_ne hX 36 dX1_arrange_26 (by decide) (fun c_26 => ?_) (fun c_26 => ?_)
          · refine aw_iload_n hX dX1_arrange_36 rfl ?_
            have ho1 : ¬ o = 1 := fun q => c_26 (by rw [q]; rfl)
            refine AW.top (y := nI (ordF v o k)) (by rw [ordF, if_neg h2, if_neg ho1]) ?_
            refine aw_iastN hX (k) (by assumption) rfl hk (by first | decide | assumption) dX1_arrange_37 ?_
            rw [hset_hset]
            refine aw_iinc hX (nI (k + 1)) dX1_arrange_38 rfl (nI_1 k) ?_
            refine aw_goto hX 13 dX1_arrange_41 (by decide) ?_
            exact ih (k + 1) _ hk (by omega) (upd_lo2 (f := nF (ordF v o)) h4)
          · refine aw_bipush hX (39) dX1_arrange_29 (by decide) ?_
            refine aw_iload_n hX dX1_arrange_31 rfl ?_
            refine aw_isub hX dX1_arrange_32 ?_
            have hx : 39 - nI k = nI (39 - k) := pk_sub (a := 39) (by omega)
            have ho1 : o = 1 := (nI_eq (a := o) (b := 1) (by omega) (by decide)).mp c_26
            rw [hx, show 39 - k = ordF v o k by rw [ordF, if_neg h2, if_pos ho1]]
            refine aw_goto hX 37 dX1_arrange_33 (by decide) ?_
            refine aw_iastN hX (k) (by assumption) rfl hk (by first | decide | assumption) dX1_arrange_37 ?_
            rw [hset_hset]
            refine aw_iinc hX (nI (k + 1)) dX1_arrange_38 rfl (nI_1 k) ?_
            refine aw_goto hX 13 dX1_arrange_41 (by decide) ?_
            exact ih (k + 1) _ hk (by omega) (upd_lo2 (f := nF (ordF v o)) h4)
    refine aw_iload_n hX dX1_arrange_0 rfl ?_
    refine aw_iconst hX (2) dX1_arrange_1 (by decide) ?_
    refine aw_icmp_ne hX 11 dX1_arrange_2 (by decide) (fun c_2 => ?_) (fun c_2 => ?_)
    · refine aw_iconst hX (0) dX1_arrange_11 (by decide) ?_
      refine aw_istore_n hX dX1_arrange_12 (Nat.le_of_ble_eq_true rfl) ?_
      rw [← hset_self hf]
      exact loop 41 0 f0 (by decide) (by decide) (fun i hi => absurd hi (Nat.not_lt_zero i))
    · exact absurd c_2 h2'
theorem tX1_flipColumn (l : Launch) (E : EV) (n : Nat) (H : HState h p v) {W : Nat} (hW : v.1.1 = nI W) (a : Nat) {j u : Nat} (hj : j < 40) (hjw : nI j < v.1.1) (hu : u ≤ 50) : MX1_flipColumn l E n h [.ref a, .ref p, .int (nI j), .int (nI u)] (fun r h' => r = some (.int (nI (fcF (dueP v j) j 7 0 v u).2)) ∧ HState h' p (fcF (dueP v j) j 7 0 v u).1 ∧ Sm p (p + 15) h h') := by
  obtain ⟨e0, e1, e2, e3, e4⟩ := id H
  have d0 := e1.1
  refine AM.intro mf_X1_flipColumn (by simp [Value.category]) (Nat.le_of_ble_eq_true rfl) (fun X hl hE hnm hX => ?_)
  subst hl
  subst hE
  show AW X _ _ 0 0 0 [some (.ref a), some (.ref p), some (.int (nI j)), some (.int (nI u)), none, none, none] []
  have loop : ∀ (r i y : Nat) (vv : PV) (hh : HP), i + r = 7 → y ≤ u → HState hh p vv → Sm p (p + 15) h hh → KP v vv → fcF (dueP v j) j 7 0 v u = fcF (dueP v j) j r i vv y → AW X n hh 0 0 16 [some (.ref a), some (.ref p), some (.int (nI j)), some (.int (nI u)), some (.int (nI y)), some (.int (dueP v j)), some (.int (nI i))] [] := by
    intro r
    induction r with
    | zero =>
      intro i y vv hh h1 h2 H' sm kp hq
      have hi : i = 7 := by omega
      subst hi
      replace hq := hq.trans (show fcF (dueP v j) j 0 7 vv y = (vv, y) from rfl)
      rw [hq] at hX
      refine aw_iload hX dX1_flipColumn_16 rfl ?_
      refine aw_bipush hX (7) dX1_flipColumn_18 (by decide) ?_
      refine aw_icmp_ge hX 54 dX1_flipColumn_20 (by decide) (fun c_20 => ?_) (fun c_20 => ?_)
      · refine aw_iload hX dX1_flipColumn_54 rfl ?_
        exact aw_iret hX rfl rfl rfl rfl dX1_flipColumn_56 (by exact ⟨rfl, H', sm⟩)
      · exact absurd (Int32.le_refl 7) c_20
    | succ r ih =>
      intro i y vv hh h1 h2 H' sm kp hq
      have hi : i < 7 := by omega
      have s0 := H'.1
      have hy0 : nI y ≤ 0 ↔ y = 0 := by
        have := nI_leI (a := y) (b := 0) (by omega) (by decide)
        exact this.trans (by omega)
      replace hq := hq.trans (show fcF (dueP v j) j (r + 1) i vv y = if y = 0 then (vv, y) else if dueP v j &&& mk i = 0 then fcF (dueP v j) j r (i + 1) vv y else fcF (dueP v j) j r (i + 1) (tryF vv j i) (y - 1) from rfl)
      refine aw_iload hX dX1_flipColumn_16 rfl ?_
      refine aw_bipush hX (7) dX1_flipColumn_18 (by decide) ?_
      refine aw_icmp_ge hX 54 dX1_flipColumn_20 (by decide) (fun c_20 => ?_) (fun c_20 => ?_)
      · exact absurd c_20 (nI_ge hi (by decide))
      · refine aw_iload hX dX1_flipColumn_23 rfl ?_
        refine aw_if_le hX 54 dX1_flipColumn_25 (by decide) (fun c_25 => ?_) (fun c_25 => ?_)
        · rw [if_pos (hy0.mp c_25)] at hq
          rw [hq] at hX
          refine aw_iload hX dX1_flipColumn_54 rfl ?_
          exact aw_iret hX rfl rfl rfl rfl dX1_flipColumn_56 ⟨rfl, H', sm⟩
        · have hy : ¬ y = 0 := fun q => c_25 (hy0.mpr q)
          rw [if_neg hy] at hq
          refine aw_iload hX dX1_flipColumn_28 rfl ?_
          refine aw_iconst hX (1) dX1_flipColumn_30 (by decide) ?_
          refine aw_iload hX dX1_flipColumn_31 rfl ?_
          refine aw_ishl hX dX1_flipColumn_33 ?_
          refine aw_iand hX dX1_flipColumn_34 ?_
          refine aw_if_eq hX 48 dX1_flipColumn_35 (by decide) (fun c_35 => ?_) (fun c_35 => ?_)
          · rw [if_pos (show dueP v j &&& mk i = 0 from c_35)] at hq
            refine aw_iinc hX (nI (i + 1)) dX1_flipColumn_48 rfl (nI_1 i) ?_
            refine aw_goto hX 16 dX1_flipColumn_51 (by decide) ?_
            exact ih (i + 1) y vv hh (by omega) h2 H' sm kp hq
          · rw [if_neg (show ¬ dueP v j &&& mk i = 0 from c_35)] at hq
            refine aw_aload_n hX dX1_flipColumn_38 rfl ?_
            refine aw_iload_n hX dX1_flipColumn_39 rfl ?_
            refine aw_iload hX dX1_flipColumn_40 rfl ?_
            refine aw_callV0 hX RX1 rfl (tX8_tryDot _ _ _ H' hj (by rw [kp.1]; exact hjw) hi) rfl mf_X8_tryDot mi_X8_tryDot ms_X8_tryDot kl_X1_48 (by assumption) rfl rfl (by decide) (Nat.le_of_ble_eq_true rfl) dX1_flipColumn_42 (by decide) (fun v_42 h_42 p_42 => ?_)
            obtain ⟨rfl, H2, sm2⟩ := p_42
            refine aw_iinc hX (nI (y - 1)) dX1_flipColumn_45 rfl (sb_m1 (by omega)) ?_
            refine aw_iinc hX (nI (i + 1)) dX1_flipColumn_48 rfl (nI_1 i) ?_
            refine aw_goto hX 16 dX1_flipColumn_51 (by decide) ?_
            exact ih (i + 1) (y - 1) _ _ (by omega) (by omega) H2 (sm.tr sm2 (Nat.le_refl _) (Nat.le_refl _)) (kp.tr (tryF_KP vv j i)) hq
  refine aw_iload_n hX dX1_flipColumn_0 rfl ?_
  refine aw_istore hX dX1_flipColumn_1 (Nat.le_of_ble_eq_true rfl) ?_
  refine aw_aload_n hX dX1_flipColumn_3 rfl ?_
  refine gt_X1_20 hX dX1_flipColumn_4 (by assumption) (by exact rfl) ?_
  refine aw_iload_n hX dX1_flipColumn_7 rfl ?_
  refine aw_callVp hX RX1 rfl (tX0_dueBits _ _ _ e1 hj) rfl mf_X0_dueBits mi_X0_dueBits ms_X0_dueBits kl_X1_28 (by assumption) rfl rfl (by decide) (Nat.le_of_ble_eq_true rfl) dX1_flipColumn_8 (by decide) ?_
  refine aw_istore hX dX1_flipColumn_11 (Nat.le_of_ble_eq_true rfl) ?_
  refine aw_iconst hX (0) dX1_flipColumn_13 (by decide) ?_
  refine aw_istore hX dX1_flipColumn_14 (Nat.le_of_ble_eq_true rfl) ?_
  exact loop 7 0 u v h rfl (Nat.le_refl _) H Sm.rf (KP.rf v) rfl
theorem tX1_passSecond (l : Launch) (E : EV) (n : Nat) (H : HState h p v) {W : Nat} (hW : v.1.1 = nI W) (hF : HFlip h a) (hd : a + 2 ≤ p ∨ p + 15 ≤ a) (hlen : (upL v 8).length = 40) {P o : Nat} (hP : v.2.2.2 0 = nI P) (ho : v.2.2.2 1 = nI o) (hP50 : P ≤ 50) (ho2 : o ≤ 2) (hT : v.2.1.2.2.2.1 < 2 ^ 30) (hO : ∀ k, k < 40 → ordF v o k < 40) : MX1_passSecond l E n h [.ref a, .ref p] (fun r h' => r = none ∧ HState h' p (secF v P o) ∧ ∃ f, Sm p (p + 15) (hset h (a + 1) (cI 40 f)) h') := by
  obtain ⟨e0, e1, e2, e3, e4⟩ := id H
  obtain ⟨f0, f1, f2⟩ := id hF
  refine AM.intro mf_X1_passSecond (by simp [Value.category]) (Nat.le_of_ble_eq_true rfl) (fun X hl hE hnm hX => ?_)
  subst hl
  subst hE
  show AW X _ _ 0 0 0 [some (.ref a), some (.ref p), none, none, none, none] []
  have hA := H.off (a := a + 1) (cI 40 (nF (ordF v o))) (by omega)
  have loop : ∀ (r k y : Nat) (x : Option Value) (vv : PV) (hh : HP), k + r = 40 → y ≤ P → HState hh p vv → Sm p (p + 15) (hset h (a + 1) (cI 40 (nF (ordF v o)))) hh → KP v vv → psF (ordF v o) 40 0 v P = psF (ordF v o) r k vv y → AW X n hh 0 0 26 [some (.ref a), some (.ref p), some (.int (nI P)), some (.int (nI y)), some (.int (nI k)), x] [] := by
    have fin : ∀ (k y : Nat) (x : Option Value) (vv : PV) (hh : HP), HState hh p vv → Sm p (p + 15) (hset h (a + 1) (cI 40 (nF (ordF v o)))) hh → KP v vv → y ≤ P → psF (ordF v o) 40 0 v P = (vv, y) → AW X n hh 0 0 76 [some (.ref a), some (.ref p), some (.int (nI P)), some (.int (nI y)), some (.int (nI k)), x] [] := by
      intro k y x vv hh H' sm kp hy hq
      obtain ⟨e0, e1, e2, e3, e4⟩ := id H'
      have m0 := e2.1
      refine aw_aload_n hX dX1_passSecond_76 rfl ?_
      refine gt_X1_38 hX dX1_passSecond_77 (by assumption) (by exact rfl) ?_
      refine aw_iload_n hX dX1_passSecond_80 rfl ?_
      refine aw_iload_n hX dX1_passSecond_81 rfl ?_
      refine aw_isub hX dX1_passSecond_82 ?_
      refine aw_callV0 hX RX1 rfl (tX3_addSecond _ _ _ e2 (by rw [kp.2.2]; exact hT) _) rfl mf_X3_addSecond mi_X3_addSecond ms_X3_addSecond kl_X1_42 (by assumption) rfl rfl (by decide) (Nat.le_of_ble_eq_true rfl) dX1_passSecond_83 (by decide) (fun v_83 h_83 p_83 => ?_)
      obtain ⟨rfl, H2, sm2⟩ := p_83
      exact aw_vret hX rfl rfl rfl rfl dX1_passSecond_86 (by have H3 := H'.meter (v' := (vv.2.1.1, vv.2.1.2.1, vv.2.1.2.2.1 + (nI P - nI y), vv.2.1.2.2.2.1 + 1, upd vv.2.1.2.2.2.2 (vv.2.1.2.2.2.1 % 20) (nI P - nI y))) H2 sm2; have hs : secF v P o = (vv.1, (vv.2.1.1, vv.2.1.2.1, vv.2.1.2.2.1 + (nI P - nI y), vv.2.1.2.2.2.1 + 1, upd vv.2.1.2.2.2.2 (vv.2.1.2.2.2.1 % 20) (nI P - nI y)), vv.2.2) := (by rw [secF, hq, kp.2.2, kp.2.1]); rw [hs]; exact ⟨rfl, H3, _, sm.tr sm2 (by omega) (by omega)⟩)
    intro r
    induction r with
    | zero =>
      intro k y x vv hh h1 h2 H' sm kp hq
      have hk : k = 40 := by omega
      subst hk
      replace hq := hq.trans (show psF (ordF v o) 0 40 vv y = (vv, y) from rfl)
      refine aw_iload hX dX1_passSecond_26 rfl ?_
      refine aw_bipush hX (40) dX1_passSecond_28 (by decide) ?_
      refine aw_icmp_ge hX 76 dX1_passSecond_30 (by decide) (fun c_30 => ?_) (fun c_30 => ?_)
      · exact fin _ _ _ _ _ H' sm kp h2 hq
      · exact absurd (Int32.le_refl 40) c_30
    | succ r ih =>
      intro k y x vv hh h1 h2 H' sm kp hq
      have hk : k < 40 := by omega
      have hy1 : nI y ≤ 1 ↔ y ≤ 1 := nI_leI (a := y) (b := 1) (by omega) (by decide)
      have fa : hh a = some (cO 1 [.ref (a + 1)]) := (sm.at (by omega)).trans ((hset_ne _ _ (by omega)).trans f0)
      have fb : hh (a + 1) = some (cI 40 (nF (ordF v o))) := (sm.at (by omega)).trans (hset_eq _ _ _)
      have s0 := H'.1
      have d0 := H'.2.1.1
      replace hq := hq.trans (show psF (ordF v o) (r + 1) k vv y = if y ≤ 1 then (vv, y) else if dueP vv (ordF v o k) = 0 then psF (ordF v o) r (k + 1) vv y else psF (ordF v o) r (k + 1) (fcF (dueP vv (ordF v o k)) (ordF v o k) 7 0 vv (y - 1)).1 (fcF (dueP vv (ordF v o k)) (ordF v o k) 7 0 vv (y - 1)).2 from rfl)
      refine aw_iload hX dX1_passSecond_26 rfl ?_
      refine aw_bipush hX (40) dX1_passSecond_28 (by decide) ?_
      refine aw_icmp_ge hX 76 dX1_passSecond_30 (by decide) (fun c_30 => ?_) (fun c_30 => ?_)
      · exact absurd c_30 (nI_ge hk (by decide))
      · refine aw_iload_n hX dX1_passSecond_33 rfl ?_
        refine aw_iconst hX (1) dX1_passSecond_34 (by decide) ?_
        refine aw_icmp_le hX 76 dX1_passSecond_35 (by decide) (fun c_35 => ?_) (fun c_35 => ?_)
        · rw [if_pos (hy1.mp c_35)] at hq
          exact fin _ _ _ _ _ H' sm kp h2 hq
        · have hy : ¬ y ≤ 1 := fun q => c_35 (hy1.mpr q)
          rw [if_neg hy] at hq
          refine aw_aload_n hX dX1_passSecond_38 rfl ?_
          refine gt_X1_9 hX dX1_passSecond_39 (by assumption) (by exact rfl) ?_
          refine aw_iload hX dX1_passSecond_42 rfl ?_
          refine aw_ialdN hX (k) (by assumption) rfl hk (by first | decide | assumption) dX1_passSecond_44 ?_
          refine aw_istore hX dX1_passSecond_45 (Nat.le_of_ble_eq_true rfl) ?_
          refine aw_aload_n hX dX1_passSecond_47 rfl ?_
          refine gt_X1_20 hX dX1_passSecond_48 (by assumption) (by exact rfl) ?_
          refine aw_iload hX dX1_passSecond_51 rfl ?_
          refine aw_callVp hX RX1 rfl (tX0_dueBits _ _ _ H'.2.1 (hO k hk)) rfl mf_X0_dueBits mi_X0_dueBits ms_X0_dueBits kl_X1_28 (by assumption) rfl rfl (by decide) (Nat.le_of_ble_eq_true rfl) dX1_passSecond_53 (by decide) ?_
          refine aw_if_eq hX 70 dX1_passSecond_56 (by decide) (fun c_56 => ?_) (fun c_56 => ?_)
          · rw [if_pos (show dueP vv (ordF v o k) = 0 from c_56)] at hq
            refine aw_iinc hX (nI (k + 1)) dX1_passSecond_70 rfl (nI_1 k) ?_
            refine aw_goto hX 26 dX1_passSecond_73 (by decide) ?_
            exact ih (k + 1) y _ vv hh (by omega) h2 H' sm kp hq
          · rw [if_neg (show ¬ dueP vv (ordF v o k) = 0 from c_56)] at hq
            have hw : nI (ordF v o k) < vv.1.1 := dueP_w c_56
            refine aw_aload_n hX dX1_passSecond_59 rfl ?_
            refine aw_aload_n hX dX1_passSecond_60 rfl ?_
            refine aw_iload hX dX1_passSecond_61 rfl ?_
            refine aw_iload_n hX dX1_passSecond_63 rfl ?_
            refine aw_iconst hX (1) dX1_passSecond_64 (by decide) ?_
            refine aw_isub hX dX1_passSecond_65 ?_
            have hx : nI y - 1 = nI (y - 1) := pk_sub (b := 1) (by omega)
            rw [hx]
            refine aw_callV0 hX RX1 rfl (tX1_flipColumn _ _ _ H' (kp.1.trans hW) a (hO k hk) hw (by omega)) rfl mf_X1_flipColumn mi_X1_flipColumn ms_X1_flipColumn kl_X1_34 (by assumption) rfl rfl (by decide) (Nat.le_of_ble_eq_true rfl) dX1_passSecond_66 (by decide) (fun v_66 h_66 p_66 => ?_)
            obtain ⟨rfl, H2, sm2⟩ := p_66
            have kq := fcF_KP (dueP vv (ordF v o k)) (ordF v o k) 7 0 vv (y - 1)
            refine aw_istore_n hX dX1_passSecond_69 (Nat.le_of_ble_eq_true rfl) ?_
            refine aw_iinc hX (nI (k + 1)) dX1_passSecond_70 rfl (nI_1 k) ?_
            refine aw_goto hX 26 dX1_passSecond_73 (by decide) ?_
            exact ih (k + 1) _ _ _ _ (by omega) (by omega) H2 (sm.tr sm2 (Nat.le_refl _) (Nat.le_refl _)) (kp.tr kq.1) hq
  refine aw_aload_n hX dX1_passSecond_0 rfl ?_
  refine gt_X1_15 hX dX1_passSecond_1 (by assumption) (by exact rfl) ?_
  refine aw_iconst hX (0) dX1_passSecond_4 (by decide) ?_
  refine aw_ialdN hX (0) (by assumption) rfl (by decide) (by first | decide | assumption) dX1_passSecond_5 ?_
  rw [hP]
  refine aw_istore_n hX dX1_passSecond_6 (Nat.le_of_ble_eq_true rfl) ?_
  refine aw_iload_n hX dX1_passSecond_7 rfl ?_
  refine aw_istore_n hX dX1_passSecond_8 (Nat.le_of_ble_eq_true rfl) ?_
  refine aw_aload_n hX dX1_passSecond_9 rfl ?_
  refine aw_aload_n hX dX1_passSecond_10 rfl ?_
  refine gt_X1_20 hX dX1_passSecond_11 (by assumption) (by exact rfl) ?_
  refine aw_aload_n hX dX1_passSecond_14 rfl ?_
  refine gt_X1_15 hX dX1_passSecond_15 (by assumption) (by exact rfl) ?_
  refine aw_iconst hX (1) dX1_passSecond_18 (by decide) ?_
  refine aw_ialdN hX (1) (by assumption) rfl (by decide) (by first | decide | assumption) dX1_passSecond_19 ?_
  rw [ho]
  refine aw_callV0 hX RX1 rfl (tX1_arrange (v := v) _ _ _ e1 hF (by omega) hlen ho2) rfl mf_X1_arrange mi_X1_arrange ms_X1_arrange kl_X1_24 (by assumption) rfl rfl (by decide) (Nat.le_of_ble_eq_true rfl) dX1_passSecond_20 (by decide) (fun v_20 h_20 p_20 => ?_)
  obtain ⟨rfl, rfl⟩ := p_20
  refine aw_iconst hX (0) dX1_passSecond_23 (by decide) ?_
  refine aw_istore hX dX1_passSecond_24 (Nat.le_of_ble_eq_true rfl) ?_
  exact loop 40 0 P _ v _ rfl (Nat.le_refl _) hA Sm.rf (KP.rf v) rfl
end FLIP
