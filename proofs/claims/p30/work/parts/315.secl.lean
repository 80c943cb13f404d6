/-! a second by lists of columns -/
def psL : List Nat → PV → Nat → PV × Nat
  | [], v, u => (v, u)
  | c :: cs, v, u => if u ≤ 1 then (v, u) else if dueP v c = 0 then psL cs v u else psL cs (fcF (dueP v c) c 7 0 v (u - 1)).1 (fcF (dueP v c) c 7 0 v (u - 1)).2
theorem psF_L (o : Nat → Nat) : ∀ (r k : Nat) (v : PV) (u : Nat), psF o r k v u = psL ((List.range' k r).map o) v u
  | 0, k, v, u => rfl
  | r + 1, k, v, u => by
    rw [psF, List.range'_succ, List.map_cons, psL]
    split
    · rfl
    · split
      · exact psF_L o r (k + 1) v u
      · exact psF_L o r (k + 1) _ _
theorem psL_low {u : Nat} (hu : u ≤ 1) : ∀ (L : List Nat) (v : PV), psL L v u = (v, u)
  | [], _ => rfl
  | c :: cs, v => by rw [psL, if_pos hu]
theorem tryF_due {v : PV} {j i c : Nat} (h : ¬ c = j) : dueP (tryF v j i) c = dueP v c := by
  unfold tryF
  split
  · show (if nI c < v.1.1 then (v.1.2.2.1 c ^^^ upd v.1.2.1 j _ c) &&& (v.1.2.2.2.2.1 c ^^^ (-1)) else 0) = _
    rw [pk_un h]
    rfl
  · show (if nI c < v.1.1 then (v.1.2.2.1 c ^^^ v.1.2.1 c) &&& (upd v.1.2.2.2.2.1 j _ c ^^^ (-1)) else 0) = _
    rw [pk_un h]
    rfl
theorem fcF_due (due : Int32) {j c : Nat} (h : ¬ c = j) : ∀ (r i : Nat) (v : PV) (u : Nat), dueP (fcF due j r i v u).1 c = dueP v c
  | 0, i, v, u => rfl
  | r + 1, i, v, u => by
    rw [fcF]
    split
    · rfl
    · split
      · exact fcF_due due h r (i + 1) v u
      · exact (fcF_due due h r (i + 1) _ _).trans (tryF_due h)
theorem i_0_and (x : Int32) : (0 : Int32) &&& x = 0 := by
  apply Int32.toBitVec_inj.mp
  rw [Int32.toBitVec_and]
  show 0#32 &&& x.toBitVec = 0#32
  exact BitVec.zero_and
theorem fcF_0 (j : Nat) : ∀ (r i : Nat) (v : PV) (u : Nat), fcF 0 j r i v u = (v, u)
  | 0, i, v, u => rfl
  | r + 1, i, v, u => by
    rw [fcF]
    split
    · rfl
    · rw [if_pos (i_0_and _)]
      exact fcF_0 j r (i + 1) v u
abbrev DD (v : PV) (c : Nat) : Bool := decide (¬ dueP v c = 0)
theorem psL_filter (v0 : PV) : ∀ (L : List Nat) (v : PV) (u : Nat), L.Pairwise (· ≠ ·) → (∀ c ∈ L, dueP v c = dueP v0 c) → psL L v u = psL (L.filter (DD v0)) v u
  | [], v, u, _, _ => rfl
  | c :: cs, v, u, hp, hd => by
    obtain ⟨hp1, hp2⟩ := List.pairwise_cons.mp hp
    have hc := hd c List.mem_cons_self
    by_cases q : dueP v0 c = 0
    · rw [List.filter_cons_of_neg (by simp [q]), ← psL_filter v0 cs v u hp2 (fun x hx => hd x (List.mem_cons_of_mem _ hx)), psL]
      split
      · rename_i hu
        exact (psL_low hu cs v).symm
      · rw [if_pos (hc.trans q)]
    · have q2 : ¬ dueP v c = 0 := fun z => q (hc.symm.trans z)
      rw [List.filter_cons_of_pos (by simp [q]), psL, psL]
      split
      · rfl
      · exact psL_filter v0 cs _ _ hp2 (fun x hx => (fcF_due _ (fun e => hp1 x hx e.symm) 7 0 v (u - 1)).trans (hd x (List.mem_cons_of_mem _ hx)))
def relD (v : PV) (a b : Nat) : Prop := bcF (dueP v b) < bcF (dueP v a) ∨ bcF (dueP v b) = bcF (dueP v a) ∧ a < b
/-- the columns that are left, in the order o, behind g steps -/
def ORD (v : PV) (W o g : Nat) (R : List Nat) : Prop :=
  if o = 0 then R = (List.range' g (40 - g)).filter (DD v) else if o = 1 then R = (List.range (W - g)).reverse.filter (DD v) else R.Pairwise (relD v) ∧ R.length ≤ W - g
theorem ORD_0 {v : PV} {W g : Nat} {R : List Nat} : ORD v W 0 g R ↔ R = (List.range' g (40 - g)).filter (DD v) := Iff.rfl
theorem ORD_1 {v : PV} {W g : Nat} {R : List Nat} : ORD v W 1 g R ↔ R = (List.range (W - g)).reverse.filter (DD v) := Iff.rfl
theorem ORD_2 {v : PV} {W g : Nat} {R : List Nat} : ORD v W 2 g R ↔ R.Pairwise (relD v) ∧ R.length ≤ W - g := Iff.rfl
theorem relD_irr {v : PV} {a b : Nat} (h : relD v a b) : a ≠ b := fun e => by
  subst e
  rcases h with h | h
  · exact Int32.lt_irrefl h
  · exact Nat.lt_irrefl _ h.2
theorem upL_cnt (v : PV) : ∀ (r x : Nat), r ≤ 8 → x ∈ upL v r → ∃ d, d ≤ 7 ∧ 8 ≤ d + r ∧ bcF (dueP v x) = nI d
  | 0, x, _, h => absurd h List.not_mem_nil
  | r + 1, x, hr, h => by
    rcases List.mem_append.mp h with h | h
    · obtain ⟨d, h1, h2, h3⟩ := upL_cnt v r x (by omega) h
      exact ⟨d, h1, by omega, h3⟩
    · exact ⟨7 - r, by omega, by omega, of_decide_eq_true (List.mem_filter.mp h).2⟩
theorem upL_rel (v : PV) : ∀ r, r ≤ 8 → (upL v r).Pairwise (relD v)
  | 0, _ => List.Pairwise.nil
  | r + 1, hr => by
    refine List.pairwise_append.mpr ⟨upL_rel v r (by omega), ?_, fun a ha b hb => ?_⟩
    · refine List.Pairwise.imp_of_mem ?_ ((List.pairwise_lt_range (n := 40)).filter _)
      intro a b ha hb hab
      have h1 := of_decide_eq_true (List.mem_filter.mp ha).2
      have h2 := of_decide_eq_true (List.mem_filter.mp hb).2
      exact Or.inr ⟨h2.trans h1.symm, hab⟩
    · obtain ⟨d, h1, h2, h3⟩ := upL_cnt v r a (by omega) ha
      have h4 := of_decide_eq_true (List.mem_filter.mp hb).2
      refine Or.inl ?_
      rw [h3, h4]
      exact (nI_ltI (by omega) (by omega)).mpr (by omega)
theorem cnt_pos : ∀ k, k < 128 → ¬ k = 0 → 0 < cntN k := by decide +kernel
theorem B7.pos {x : Int32} (h : B7 x) (h0 : ¬ x = 0) : 0 < bcF x := by
  obtain ⟨k, hk, rfl⟩ := h.ex
  rw [bcF_cnt k (by omega)]
  have h1 : ¬ k = 0 := fun q => h0 (by rw [q]; rfl)
  have h2 := cntN_le hk
  exact (nI_ltI (a := 0) (by decide) (by omega)).mpr (cnt_pos k hk h1)
theorem dueP_lt {v : PV} {W c : Nat} (hW : v.1.1 = nI W) (hW4 : W ≤ 40) (hc : c < 40) (h : ¬ dueP v c = 0) : c < W := by
  have q := dueP_w h
  rw [hW] at q
  exact (nI_ltI (by omega) (by omega)).mp q
theorem rev40 : (List.range' 0 40).map (fun k => 39 - k) = (List.range 40).reverse := by decide
theorem upL_map {v : PV} (hl : (upL v 8).length = 40) : (List.range' 0 40).map (fun k => (upL v 8).getD k 0) = upL v 8 := by
  refine List.ext_getElem (by simp [hl]) (fun i h1 h2 => ?_)
  rw [List.getElem_map, List.getElem_range', List.getD_eq_getElem?_getD]
  simp only [Nat.zero_add, Nat.one_mul]
  rw [List.getElem?_eq_getElem h2]
  rfl
theorem R0_ex {v : PV} {W o : Nat} (hB : BO v) (hW : v.1.1 = nI W) (hW4 : W ≤ 40) (ho : o ≤ 2) (P : Nat) : ∃ R, psF (ordF v o) 40 0 v P = psL R v P ∧ R.Pairwise (· ≠ ·) ∧ (∀ c, c ∈ R → c < W ∧ ¬ dueP v c = 0) ∧ (∀ c, c < W → ¬ dueP v c = 0 → c ∈ R) ∧ ORD v W o 0 R := by
  have key : ∀ L : List Nat, (List.range' 0 40).map (ordF v o) = L → L.Pairwise (· ≠ ·) → (∀ c, c ∈ L → c < 40) → (∀ c, c < W → ¬ dueP v c = 0 → c ∈ L) → ORD v W o 0 (L.filter (DD v)) → ∃ R, psF (ordF v o) 40 0 v P = psL R v P ∧ R.Pairwise (· ≠ ·) ∧ (∀ c, c ∈ R → c < W ∧ ¬ dueP v c = 0) ∧ (∀ c, c < W → ¬ dueP v c = 0 → c ∈ R) ∧ ORD v W o 0 R := fun L e1 e2 e3 e4 e5 => by
    refine ⟨L.filter (DD v), ?_, e2.filter _, fun c hc => ?_, fun c h1 h2 => List.mem_filter.mpr ⟨e4 c h1 h2, decide_eq_true h2⟩, e5⟩
    · rw [psF_L, e1]
      exact psL_filter v L v P e2 (fun c _ => rfl)
    · obtain ⟨h1, h2⟩ := List.mem_filter.mp hc
      have h3 := of_decide_eq_true h2
      exact ⟨dueP_lt hW hW4 (e3 c h1) h3, h3⟩
  rcases (show o = 0 ∨ o = 1 ∨ o = 2 by omega) with q | q | q <;> subst q
  · refine key (List.range' 0 40) (List.map_id'' (fun k => rfl) _) ((List.pairwise_lt_range' (s := 0) (n := 40)).imp (fun h => Nat.ne_of_lt h)) (fun c hc => by have := List.mem_range'_1.mp hc; omega) (fun c h1 _ => List.mem_range'_1.mpr (by omega)) rfl
  · refine key (List.range 40).reverse ((List.map_congr_left (fun k _ => rfl)).trans rev40) (by decide) (fun c hc => List.mem_range.mp (List.mem_reverse.mp hc)) (fun c h1 _ => List.mem_reverse.mpr (List.mem_range.mpr (by omega))) ?_
    refine ORD_1.mpr ?_
    rw [List.filter_reverse, List.filter_reverse]
    congr 1
    have h1 : List.range 40 = List.range W ++ (List.range (40 - W)).map (W + ·) := by
      rw [← List.range_add, show W + (40 - W) = 40 by omega]
    rw [h1, List.filter_append, show ((List.range (40 - W)).map (W + ·)).filter (DD v) = [] from List.filter_eq_nil_iff.mpr (fun c hc hd => ?_), List.append_nil, Nat.sub_zero]
    obtain ⟨k, hk, rfl⟩ := List.mem_map.mp hc
    have hk2 := List.mem_range.mp hk
    have := dueP_lt hW hW4 (by omega) (of_decide_eq_true hd)
    omega
  · have hl := hB.len
    have hr := upL_rel v 8 (Nat.le_refl _)
    have hne : (upL v 8).Pairwise (· ≠ ·) := hr.imp (fun h => relD_irr h)
    have hin : ∀ c, c < W → ¬ dueP v c = 0 → c ∈ upL v 8 := fun c h1 h2 => by
      obtain ⟨d, h3, h4⟩ := (hB.due (c := c) (by omega)).bc
      have hb : c ∈ bkt v d 40 := List.mem_filter.mpr ⟨List.mem_range.mpr (by omega), decide_eq_true h4⟩
      have e : upL v 8 = ((((((((([] : List Nat) ++ bkt v 7 40) ++ bkt v 6 40) ++ bkt v 5 40) ++ bkt v 4 40) ++ bkt v 3 40) ++ bkt v 2 40) ++ bkt v 1 40) ++ bkt v 0 40) := rfl
      rw [e]
      rcases (show d = 0 ∨ d = 1 ∨ d = 2 ∨ d = 3 ∨ d = 4 ∨ d = 5 ∨ d = 6 ∨ d = 7 by omega) with q | q | q | q | q | q | q | q <;> subst q <;> simp only [List.mem_append] <;> simp [hb]
    refine key (upL v 8) ((List.map_congr_left (fun k _ => rfl)).trans (upL_map hl)) hne (fun c hc => upL_mem v 8 c hc) hin (ORD_2.mpr ⟨hr.filter _, ?_⟩)
    rw [Nat.sub_zero]
    have h3 : ((upL v 8).filter (DD v)).Nodup := hne.filter _
    have h4 := List.Nodup.length_le_of_subset (l₂ := List.range W) h3 (fun c hc => by
      obtain ⟨h5, h6⟩ := List.mem_filter.mp hc
      exact List.mem_range.mpr (dueP_lt hW hW4 (upL_mem v 8 c h5) (of_decide_eq_true h6)))
    rw [List.length_range] at h4
    exact h4
/-- the fullest of the first ones -/
def amF (f : IF) : Nat → Nat
  | 0 => 0
  | k + 1 => if f (amF f k) < f (k + 1) then k + 1 else amF f k
theorem amF_max (f : IF) : ∀ k, amF f k ≤ k ∧ (∀ j, j ≤ k → f j ≤ f (amF f k)) ∧ ∀ j, j < amF f k → f j < f (amF f k)
  | 0 => ⟨Nat.le_refl _, fun j hj => by rw [Nat.le_zero.mp hj]; exact Int32.le_refl _, fun j hj => absurd hj (Nat.not_lt_zero _)⟩
  | k + 1 => by
    obtain ⟨h1, h2, h3⟩ := amF_max f k
    rw [amF]
    split
    · rename_i q
      refine ⟨Nat.le_refl _, fun j hj => ?_, fun j hj => Int32.lt_of_le_of_lt (h2 j (by omega)) q⟩
      by_cases e : j = k + 1
      · rw [e]
        exact Int32.le_refl _
      · exact Int32.le_of_lt (Int32.lt_of_le_of_lt (h2 j (by omega)) q)
    · rename_i q
      refine ⟨by omega, fun j hj => ?_, h3⟩
      by_cases e : j = k + 1
      · rw [e]
        exact Int32.not_lt.mp q
      · exact h2 j (by omega)
def nxF (o W g : Nat) (bg : IF) : Nat := if o = 0 then g else if o = 1 then W - 1 - g else amF bg (W - 1)
theorem nx_step {v : PV} {W o g : Nat} {R : List Nat} {bg : IF} (hB : BO v) (hW4 : W ≤ 40) (ho : o ≤ 2) (hg : g < W) (hR : ∀ c, c ∈ R → c < W ∧ ¬ dueP v c = 0) (h1 : ∀ c, c < W → c ∈ R → bg c = bcF (dueP v c)) (h2 : ∀ c, c < W → c ∉ R → bg c ≤ 0) (hO : ORD v W o g R) : nxF o W g bg < W ∧ ((nxF o W g bg ∉ R ∧ ORD v W o (g + 1) R) ∨ ∃ R', R = nxF o W g bg :: R' ∧ ORD v W o (g + 1) R') := by
  rcases (show o = 0 ∨ o = 1 ∨ o = 2 by omega) with q | q | q <;> subst q
  · show g < W ∧ ((g ∉ R ∧ ORD v W 0 (g + 1) R) ∨ ∃ R', R = g :: R' ∧ ORD v W 0 (g + 1) R')
    refine ⟨hg, ?_⟩
    have e : List.range' g (40 - g) = g :: List.range' (g + 1) (40 - (g + 1)) := by
      rw [show 40 - g = (40 - (g + 1)) + 1 by omega, List.range'_succ]
    have hO := ORD_0.mp hO
    rw [e] at hO
    by_cases d : DD v g = true
    · rw [List.filter_cons_of_pos d] at hO
      exact Or.inr ⟨_, hO, ORD_0.mpr rfl⟩
    · rw [List.filter_cons_of_neg d] at hO
      refine Or.inl ⟨fun z => ?_, ORD_0.mpr hO⟩
      rw [hO] at z
      have := List.mem_range'_1.mp (List.mem_filter.mp z).1
      omega
  · show W - 1 - g < W ∧ ((W - 1 - g ∉ R ∧ ORD v W 1 (g + 1) R) ∨ ∃ R', R = (W - 1 - g) :: R' ∧ ORD v W 1 (g + 1) R')
    refine ⟨by omega, ?_⟩
    have e : (List.range (W - g)).reverse = (W - 1 - g) :: (List.range (W - (g + 1))).reverse := by
      rw [show W - g = (W - (g + 1)) + 1 by omega, List.range_succ, List.reverse_append, show W - 1 - g = W - (g + 1) by omega]
      rfl
    have hO := ORD_1.mp hO
    rw [e] at hO
    by_cases d : DD v (W - 1 - g) = true
    · rw [List.filter_cons_of_pos d] at hO
      exact Or.inr ⟨_, hO, ORD_1.mpr rfl⟩
    · rw [List.filter_cons_of_neg d] at hO
      refine Or.inl ⟨fun z => ?_, ORD_1.mpr hO⟩
      rw [hO] at z
      have := List.mem_range.mp (List.mem_reverse.mp (List.mem_filter.mp z).1)
      omega
  · show amF bg (W - 1) < W ∧ ((amF bg (W - 1) ∉ R ∧ ORD v W 2 (g + 1) R) ∨ ∃ R', R = amF bg (W - 1) :: R' ∧ ORD v W 2 (g + 1) R')
    obtain ⟨m1, m2, m3⟩ := amF_max bg (W - 1)
    refine ⟨by omega, ?_⟩
    obtain ⟨o1, o2⟩ := ORD_2.mp hO
    cases R with
    | nil => exact Or.inl ⟨List.not_mem_nil, ORD_2.mpr ⟨List.Pairwise.nil, Nat.zero_le _⟩⟩
    | cons x R' =>
      obtain ⟨p1, p2⟩ := List.pairwise_cons.mp o1
      have hl : R'.length + 1 ≤ W - g := o2
      refine Or.inr ⟨R', ?_, ORD_2.mpr ⟨p2, by omega⟩⟩
      have hx := hR x List.mem_cons_self
      have hxb := h1 x hx.1 List.mem_cons_self
      have hxp := (hB.due (c := x) (by omega)).pos hx.2
      have hxa := m2 x (by omega)
      by_cases e : amF bg (W - 1) = x
      · rw [e]
      · exfalso
        have ha : amF bg (W - 1) ∈ x :: R' := Decidable.byContradiction fun z => by
          have := h2 _ (by omega) z
          rw [hxb] at hxa
          exact Int32.not_le.mpr hxp (Int32.le_trans hxa this)
        have hab := h1 _ (by omega) ha
        have ha' : amF bg (W - 1) ∈ R' := by
          rcases List.mem_cons.mp ha with z | z
          · exact absurd z e
          · exact z
        rcases p1 _ ha' with z | z
        · rw [hxb, hab] at hxa
          exact Int32.not_le.mpr z hxa
        · have := m3 x z.2
          rw [hxb, hab, z.1] at this
          exact Int32.lt_irrefl this
theorem ORD_end {v : PV} {W o : Nat} {R : List Nat} (hW4 : W ≤ 40) (ho : o ≤ 2) (hR : ∀ c, c ∈ R → c < W ∧ ¬ dueP v c = 0) (hO : ORD v W o W R) : R = [] := by
  rcases (show o = 0 ∨ o = 1 ∨ o = 2 by omega) with q | q | q <;> subst q
  · have hO := ORD_0.mp hO
    cases R with
    | nil => rfl
    | cons x R' =>
      exfalso
      have hx : x ∈ (List.range' W (40 - W)).filter (DD v) := by rw [← hO]; exact List.mem_cons_self
      have h1 := List.mem_range'_1.mp (List.mem_filter.mp hx).1
      have h2 := hR x List.mem_cons_self
      omega
  · have hO := ORD_1.mp hO
    rw [Nat.sub_self] at hO
    exact hO
  · have h1 := (ORD_2.mp hO).2
    rw [Nat.sub_self] at h1
    exact List.length_eq_zero_iff.mp (Nat.le_zero.mp h1)
