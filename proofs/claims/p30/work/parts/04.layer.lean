/-! THE LAYER: an abstract world (places instead of addresses) and one row an instruction over it -/
-- environment: class numbers, array classes (0 int[], 1 int[][], 2 State[], 3 long[]), the first address of the run's own cells, the read-only arrays (0..3 the class's constants, 4 the script), the script's length and content
abbrev EV : Type := va_G × (Nat → ClassId) × Nat × (Nat → Nat) × Nat × (Nat → Int32)
def eD (E : EV) : va_G := E.1
def eC (E : EV) : Nat → ClassId := E.2.1
def eB (E : EV) : Nat := E.2.2.1
def eT (E : EV) : Nat → Nat := E.2.2.2.1
def eN (E : EV) : Nat → Nat := fun k => match k with | 0 => 3 | 1 => 3 | 2 => 3 | 3 => 5 | _ => E.2.2.2.2.1
def eF (E : EV) : Nat → Nat → Int32 := fun k => match k with
  | 0 => fun j => [10, 0, 100].getD j 0
  | 1 => fun j => [2, 0, 1].getD j 0
  | 2 => fun j => [50, 2, 200].getD j 0
  | 3 => fun j => [0, -1, 1, -2, 2].getD j 0
  | _ => E.2.2.2.2.2
def eA (E : EV) : Nat → Prop := fun q => eB E ≤ q
def ad (E : EV) (p : Nat) : Nat := if p < 5 then eT E p else eB E + (p - 5)
def cv (E : EV) (v : Value) : Value := match v with
  | .ref p => .ref (ad E p)
  | w => w
theorem cv_int (E : EV) (x : Int32) : cv E (.int x) = .int x := rfl
theorem cv_ref (E : EV) (p : Nat) : cv E (.ref p) = .ref (ad E p) := rfl
theorem cv_null (E : EV) : cv E .null = .null := rfl
theorem ad_in {E : EV} {p : Nat} (h : 5 ≤ p) : ad E p = eB E + (p - 5) := if_neg (by omega)
theorem ad_inj {E : EV} {p q : Nat} (hp : 5 ≤ p) (hq : 5 ≤ q) (h : ad E p = ad E q) : p = q := by
  rw [ad_in hp, ad_in hq] at h
  omega
/-- a cell: an array of ints, an array of places, or an object (its class's number, its fields) -/
abbrev AC : Type := (Nat × Nat × ((Nat → Int32) ⊕ ((Nat → Option Nat) ⊕ (Nat → Int64)))) ⊕ (Nat × List Value)
abbrev cI (n : Nat) (f : Nat → Int32) : AC := .inl (0, n, .inl f)
abbrev cG (t n : Nat) (g : Nat → Option Nat) : AC := .inl (t, n, .inr (.inl g))
abbrev cL (n : Nat) (f : Nat → Int64) : AC := .inl (3, n, .inr (.inr f))
abbrev cO (ci : Nat) (fs : List Value) : AC := .inr (ci, fs)
abbrev HP : Type := Nat → Option AC
def cc (E : EV) : AC → va_E
  | .inl (t, n, .inl f) => .inl (eC E t, n, .inl f)
  | .inl (t, n, .inr (.inl g)) => .inl (eC E t, n, .inr (.inr (.inr (.inr (fun i => (g i).map (ad E))))))
  | .inl (t, n, .inr (.inr f)) => .inl (eC E t, n, .inr (.inl f))
  | .inr (ci, fs) => .inr (ci, fs.map (cv E))
def hset (h : HP) (a : Nat) (c : AC) : HP := fun q => if q = a then some c else h q
theorem hset_eq (h : HP) (a : Nat) (c : AC) : hset h a c a = some c := if_pos rfl
theorem hset_ne (h : HP) {a q : Nat} (c : AC) (e : q ≠ a) : hset h a c q = h q := if_neg e
abbrev tysE (E : EV) : List (ClassId × FieldType) := [(eC E 0, .int), (eC E 1, .array .int), (eC E 2, .object RX8), (eC E 3, .long)]
/-- the heap holds the world h, n places of it -/
def Wd (E : EV) (n : Nat) (h : HP) (H : Heap) : Prop :=
  5 ≤ n ∧ H.size = eB E + (n - 5) ∧ (∀ p c, h p = some c → 5 ≤ p ∧ p < n ∧ va_at (eD E) vwCl (ad E p, cc E c) H) ∧ ∀ p, 5 ≤ p → p < n → (h p).isSome = true
/-- the words that a method may hand to its callees; those of nests and casts go with the world -/
def tbG : List Cond := lw_tbl.filter goodWord
def nestQ : Cond → Bool
  | .fieldLinkNest .. => true
  | .methodLinkNest .. => true
  | .castable .. => true
  | .arrayOver _ => true
  | _ => false
theorem tbG_in {w : Cond} (h : w ∈ tbG) : w ∈ lw_tbl := (List.mem_filter.mp h).1
theorem nest_moved {w : Cond} (hq : nestQ w = true) {u U : State} (hW : u.WarmedH U.vm) (h : va_Nw w u) : va_Nw w U := by
  cases w <;> first | (cases hq; done) | exact va_Nw.warmF hW h | exact va_Nw.warmM hW h | exact va_Nw.warmC hW h | exact (Cond.arrayOver_setVmC (args := #[]) hW.alike _).trans h
/-- the first numbers' own cell: of its class, with three numbers (its lock and its hash may be any) -/
def cl0 (E : EV) (H : Heap) : Prop := ∃ cell : Cell, H[eT E 0]? = some cell ∧ cell.vm ≠ .unknown ∧ cell.vm.isStatics = false ∧ ({ cls := cell.cls, slots := cell.slots } : Cell) = vp_cell (eC E 0) (3, .inl (eF E 0))
/-- what is read only -/
def Ks (E : EV) (U : State) : Prop :=
  va_K (eD E) vwCl (tysE E) U ∧ (va_Z RX9 "FIRST_NUMBERS" "[I" (.ref (eT E 0)) (eA E) U U.heap ∧ va_Z RX9 "LEAST_NUMBERS" "[I" (.ref (eT E 1)) (eA E) U U.heap ∧ va_Z RX9 "MOST_NUMBERS" "[I" (.ref (eT E 2)) (eA E) U U.heap ∧ va_Z RX9 "SHIFTS" "[I" (.ref (eT E 3)) (eA E) U U.heap) ∧
  (∀ k, k < 5 → va_T .int (eT E k) (eN E k) (fun j => .int (eF E k j)) (eA E) U U.heap) ∧
  cl0 E U.heap ∧ (∀ w ∈ lw_tbl, nestQ w = true → va_Nw w U) ∧ eB E ≤ U.heap.size
theorem Ks.moved {E : EV} {u U : State} (h : Ks E u) (hW : u.WarmedH U.vm) (hz : u.heap.size ≤ U.heap.size) (hk : ∀ a : Nat, a < u.heap.size → ¬ eA E a → U.heap[a]? = u.heap[a]?) : Ks E U := by
  obtain ⟨h1, ⟨z0, z1, z2, z3⟩, h3, h4, h5, h6⟩ := h
  have hvm := hW.alike
  have ha : ¬ eA E (eT E 0) := (h3 0 (by decide)).choose_spec.2.2.2.2.2.2
  exact ⟨h1.moved hvm, ⟨(z0.moved hvm).kept hk, (z1.moved hvm).kept hk, (z2.moved hvm).kept hk, (z3.moved hvm).kept hk⟩, fun k hk' => ((h3 k hk').moved hvm).kept hk, by obtain ⟨cell, q1, q2⟩ := h4; exact ⟨cell, by rw [hk _ (Array.getElem?_eq_some_iff.mp q1).1 ha]; exact q1, q2⟩, fun w hw hq => nest_moved hq hW (h5 w hw hq), Nat.le_trans h6 hz⟩
theorem Ks.nest {E : EV} {s : State} (h : Ks E s) {w : Cond} (hw : w ∈ lw_tbl) (hq : nestQ w = true) {args : Array Value} : w.before args s = true := by
  have h1 := h.2.2.2.2.1 w hw hq
  cases w <;> first | (cases hq; done) | exact va_Nw.use rfl h1 | exact h1
/-- the locals -/
def lvr (E : EV) (nL : Nat) (ls : Array Slot) (L : List (Option Value)) : Prop :=
  ls.size = nL ∧ lv_wf ls ∧ L.length = nL ∧ ∀ (i : Nat) (v : Value), L[i]? = some (some v) → ls[i]? = some (Slot.val (cv E v)) ∧ v.category = 1
abbrev CX : Type := Program × Launch × Env × Room × State × MethodId × Array Value × List Frame × Method × Code × (State → Prop) × EV × Nat
abbrev CX.l (X : CX) : Launch := X.2.1
abbrev CX.E (X : CX) : EV := X.2.2.2.2.2.2.2.2.2.2.2.1
def AW (X : CX) (n : Nat) (h : HP) (k sl pc : Nat) (L : List (Option Value)) (st : List Value) : Prop :=
  match X with
  | (p, l, e, R, s, m, args, below, meth, c, Q, E, nL) =>
    ∀ (H : Heap) (locs : List Loc) (ls : Array Slot), Wd E n h H → va_S (eA E) s.heap H locs → H.size = s.heap.size + k → lvr E nL ls L →
      W p l e R s m args below meth c H locs k sl Q (F0 m pc ls (st.map (cv E)))
/-- what a method answers -/
def AQ (E : EV) (n : Nat) (post : Option Value → HP → Prop) : Array Value → State → Outcome → State → Prop := fun _ st oc t =>
  (∃ (v : Option Value) (h : HP), oc = .returned (v.map (cv E)) ∧ post v h ∧ Wd E n h t.heap) ∧ va_F (eA E) st t
abbrev rmA (fr lo mc ms : Nat) : Room := { frames := fr, cells := mc, slots := ms, locals := lo }
/-- what a body knows -/
def Cx (X : CX) (own : String) (bytes : ByteArray) (ret : Option FieldType) (fr lo mc ms n1 : Nat) (post : Option Value → HP → Prop) : Prop :=
  match X with
  | (p, _, _, R, s, m, args, below, meth, c, Q, E, nL) =>
    p.tables.exec = Jvm.exec ∧ c.code = bytes ∧ c.maxLocals = nL ∧ s.vm.findClass own = some m.cls ∧ (∀ w ∈ tbG, w.before args s = true) ∧ Ks E s ∧ meth.locks = false ∧ meth.sig.returnType = ret ∧ R = rmA fr lo mc ms ∧ Q = MQ below (AQ E n1 post) args s mc ms (eA E)
/-- a method's contract over the abstract world -/
def AM (l : Launch) (y : MethodName) (bytes : ByteArray) (nL : Nat) (ret : Option FieldType) (fr lo mc ms : Nat) (E : EV) (n : Nat) (h : HP) (As : List Value) (post : Option Value → HP → Prop) : Prop :=
  Met l y (.code y bytes nL ret :: tbG) (rmA fr lo mc ms) (va_Pc (As.map (cv E)) (fun U => Wd E n h U.heap ∧ Ks E U)) (AQ E (n + mc) post) mc ms (eA E)
theorem lg_sl_one : ∀ (vs : List Value), (∀ v ∈ vs, v.category = 1) → lg_sl vs = vs.map Slot.val
  | [], _ => rfl
  | v :: vs, h => by
    have h1 : v.category = 1 := h v List.mem_cons_self
    have h2 := lg_sl_one vs (fun w hw => h w (List.mem_cons_of_mem _ hw))
    cases v <;> first | (simp [lg_sl, h2]; done) | (exact absurd h1 (by decide)) | simp_all [lg_sl, Value.category]
theorem cv_cat (E : EV) (v : Value) : (cv E v).category = v.category := by cases v <;> rfl
theorem tysE_at (E : EV) {t : Nat} (h : t < 4) : ∃ ty, (tysE E)[t]? = some (eC E t, ty) := by
  match t, h with
  | 0, _ => exact ⟨_, rfl⟩
  | 1, _ => exact ⟨_, rfl⟩
  | 2, _ => exact ⟨_, rfl⟩
  | 3, _ => exact ⟨_, rfl⟩
theorem cc_set (E : EV) (ci : Nat) (fs : List Value) (k : Nat) {v : Value} : cc E (cO ci (fs.set k v)) = .inr (ci, (fs.map (cv E)).set k (cv E v)) := by
  show Sum.inr (ci, (fs.set k v).map (cv E)) = _
  rw [List.map_set]
/-- the locals as the kit's list -/
def asl (E : EV) (L : List (Option Value)) : List (Nat × Value) := (List.range L.length).filterMap (fun i => match L[i]? with
  | some (some v) => some (i, cv E v)
  | _ => none)
theorem mem_asl {E : EV} {L : List (Option Value)} {i : Nat} {v : Value} (h : L[i]? = some (some v)) : (i, cv E v) ∈ asl E L := by
  refine List.mem_filterMap.mpr ⟨i, List.mem_range.mpr (List.getElem?_eq_some_iff.mp h).1, ?_⟩
  simp only [h]
theorem of_asl {E : EV} {L : List (Option Value)} {q : Nat × Value} (h : q ∈ asl E L) : ∃ v, L[q.1]? = some (some v) ∧ q.2 = cv E v := by
  obtain ⟨i, -, hi⟩ := List.mem_filterMap.mp h
  split at hi
  · rename_i v hv
    cases hi
    exact ⟨v, hv, rfl⟩
  · cases hi
theorem lvr.has {E : EV} {nL : Nat} {ls : Array Slot} {L : List (Option Value)} (h : lvr E nL ls L) : lv_has ls nL (asl E L) := by
  refine ⟨h.1, h.2.1, fun q hq => ?_⟩
  obtain ⟨v, h1, h2⟩ := of_asl hq
  rw [h2]
  exact (h.2.2.2 _ _ h1).1
theorem lvr.put {E : EV} {nL i : Nat} {ls ls' : Array Slot} {L : List (Option Value)} {v : Value} (h : lvr E nL ls L) (hi : i < L.length) (hc : v.category = 1) (h' : lv_has ls' nL ((i, cv E v) :: (asl E L).filter (fun q => !(q.1 == i) && !(q.1 + 1 == i && q.2.category == 2)))) : lvr E nL ls' (L.set i (some v)) := by
  refine ⟨h'.1, h'.2.1, by rw [List.length_set]; exact h.2.2.1, fun j w hj => ?_⟩
  by_cases e : j = i
  · subst e
    rw [List.getElem?_set_self hi] at hj
    cases hj
    exact ⟨h'.2.2 _ List.mem_cons_self, hc⟩
  · rw [List.getElem?_set_ne (Ne.symm e)] at hj
    obtain ⟨h1, h2⟩ := h.2.2.2 j w hj
    refine ⟨h'.2.2 (j, cv E w) (List.mem_cons_of_mem _ (List.mem_filter.mpr ⟨mem_asl hj, ?_⟩)), h2⟩
    have h3 : (cv E w).category = 1 := (cv_cat E w).trans h2
    simp [e, h3]
theorem W.sz {p : Program} {l : Launch} {e : Env} {R : Room} {s : State} {m : MethodId} {args : Array Value} {below : List Frame} {meth : Method} {c : Code} {H : Heap} {locs : List Loc} {cells slots : Nat} {Q : State → Prop} {g : JFrame} (kk : H.size ≤ s.heap.size + cells → W p l e R s m args below meth c H locs cells slots Q g) : W p l e R s m args below meth c H locs cells slots Q g := by
  intro T hT X
  have h := X.heapSize
  rw [hT] at h
  exact kk h T hT X
theorem cc_at_lt {E : EV} {p : Nat} {c : AC} {H : Heap} (h : va_at (eD E) vwCl (ad E p, cc E c) H) : ad E p < H.size := va_at.lt h
/-- the world as a list; behind a write to one of its cells the world again -/
theorem Wd.all {E : EV} {n : Nat} {h : HP} {H : Heap} (hW : Wd E n h H) :
    ∃ ws : va_W, va_P (eD E) vwCl ws H ∧ va_D (eA E) ws ∧ (∀ (p : Nat) (c : AC), h p = some c → ∃ j : Nat, ws[j]? = some (ad E p, cc E c)) ∧
      ∀ (a : Nat) (c : AC) (q0 : Nat), h a = some c → ws[q0]? = some (ad E a, cc E c) → ∀ (c' : AC) (H1 : Heap), va_P (eD E) vwCl (ws.set q0 (ad E a, cc E c')) H1 → H1.size ≤ H.size → Wd E n (hset h a c') H1 ∧ H1.size = H.size := by
  obtain ⟨h5, hz, hc, hf⟩ := hW
  let F : Nat → Option (Nat × va_E) := fun p => (h p).map (fun c => (ad E p, cc E c))
  have hmem : ∀ q, q ∈ (List.range n).filterMap F ↔ ∃ p c, h p = some c ∧ q = (ad E p, cc E c) := by
    intro q
    rw [List.mem_filterMap]
    constructor
    · rintro ⟨p, -, hp⟩
      obtain ⟨c, h1, h2⟩ := Option.map_eq_some_iff.mp hp
      exact ⟨p, c, h1, h2.symm⟩
    · rintro ⟨p, c, h1, rfl⟩
      exact ⟨p, List.mem_range.mpr (hc p c h1).2.1, Option.map_eq_some_iff.mpr ⟨c, h1, rfl⟩⟩
  have hnd : ((List.range n).filterMap F).Pairwise (fun x y => x.1 ≠ y.1) := by
    rw [List.pairwise_filterMap]
    refine List.Pairwise.imp_of_mem ?_ List.nodup_range
    intro i j hi hj hij x hx y hy
    obtain ⟨ci, h1, h2⟩ := Option.map_eq_some_iff.mp hx
    obtain ⟨cj, h3, h4⟩ := Option.map_eq_some_iff.mp hy
    rw [← h2, ← h4]
    intro e
    exact hij (ad_inj (hc i ci h1).1 (hc j cj h3).1 e)
  have hD : va_D (eA E) ((List.range n).filterMap F) := by
    refine ⟨fun i j x y hi hj hxy => ?_, fun k q hk => ?_⟩
    · rw [List.pairwise_iff_getElem] at hnd
      obtain ⟨li, ei⟩ := List.getElem?_eq_some_iff.mp hi
      obtain ⟨lj, ej⟩ := List.getElem?_eq_some_iff.mp hj
      rcases Nat.lt_trichotomy i j with w | w | w
      · exact absurd hxy (by rw [← ei, ← ej]; exact hnd i j li lj w)
      · exact w
      · exact absurd hxy.symm (by rw [← ei, ← ej]; exact hnd j i lj li w)
    · obtain ⟨p, c, h1, rfl⟩ := (hmem q).mp (List.mem_of_getElem? hk)
      show eB E ≤ ad E p
      rw [ad_in (hc p c h1).1]
      omega
  refine ⟨(List.range n).filterMap F, fun k q hk => ?_, hD, fun p c hp => List.getElem?_of_mem ((hmem _).mpr ⟨p, c, hp, rfl⟩), fun a c q0 hh hq0 c' H1 hP1 hz1 => ?_⟩
  · obtain ⟨p, c, h1, rfl⟩ := (hmem q).mp (List.mem_of_getElem? hk)
    exact (hc p c h1).2.2
  · have hl := (List.getElem?_eq_some_iff.mp hq0).1
    have hc1 : ∀ p c, hset h a c' p = some c → 5 ≤ p ∧ p < n ∧ va_at (eD E) vwCl (ad E p, cc E c) H1 := by
      intro p c1 hp
      by_cases e : p = a
      · subst e
        rw [hset_eq] at hp
        cases hp
        exact ⟨(hc _ _ hh).1, (hc _ _ hh).2.1, hP1 q0 _ (List.getElem?_set_self hl)⟩
      · rw [hset_ne h c' e] at hp
        obtain ⟨g1, g2, g3⟩ := hc p c1 hp
        obtain ⟨j, hj⟩ := List.getElem?_of_mem ((hmem _).mpr ⟨p, c1, hp, rfl⟩)
        refine ⟨g1, g2, hP1 j _ ?_⟩
        rw [List.getElem?_set_ne ?_]
        · exact hj
        · intro e2
          subst e2
          rw [hq0] at hj
          have := congrArg (fun z : Option (Nat × va_E) => z.map Prod.fst) hj
          simp only [Option.map_some, Option.some.injEq] at this
          exact e (ad_inj g1 (hc _ _ hh).1 this.symm)
    have hf1 : ∀ p, 5 ≤ p → p < n → (hset h a c' p).isSome = true := by
      intro p g1 g2
      by_cases e : p = a
      · rw [e, hset_eq]; rfl
      · rw [hset_ne h c' e]; exact hf p g1 g2
    have hsz : H1.size = H.size := by
      have hn : 5 < n := by have := hc _ _ hh; omega
      have h1 := hf1 (n - 1) (by omega) (by omega)
      obtain ⟨c1, hc2⟩ := Option.isSome_iff_exists.mp h1
      have h2 := cc_at_lt (hc1 _ _ hc2).2.2
      rw [ad_in (by omega)] at h2
      omega
    exact ⟨⟨h5, by rw [hsz]; exact hz, hc1, hf1⟩, hsz⟩
theorem Wd.list {E : EV} {n : Nat} {h : HP} {H : Heap} (hW : Wd E n h H) {a : Nat} {c : AC} (hh : h a = some c) :
    ∃ (ws : va_W) (q0 : Nat), va_P (eD E) vwCl ws H ∧ va_D (eA E) ws ∧ ws[q0]? = some (ad E a, cc E c) ∧
      ∀ (c' : AC) (H1 : Heap), va_P (eD E) vwCl (ws.set q0 (ad E a, cc E c')) H1 → H1.size ≤ H.size → Wd E n (hset h a c') H1 ∧ H1.size = H.size := by
  obtain ⟨ws, hP, hD, hm, hb⟩ := hW.all
  obtain ⟨q0, hq⟩ := hm a c hh
  exact ⟨ws, q0, hP, hD, hq, hb a c q0 hh hq⟩
/-- a cell more -/
theorem Wd.grow {E : EV} {n : Nat} {h : HP} {H H1 : Heap} {ws : va_W} {q : Nat} {c : AC} (hW : Wd E n h H) (hm : ∀ (p : Nat) (c : AC), h p = some c → ∃ j : Nat, ws[j]? = some (ad E p, cc E c))
    (hP : va_P (eD E) vwCl (ws ++ [(q, cc E c)]) H1) (hD : va_D (eA E) (ws ++ [(q, cc E c)])) (hz1 : H1.size ≤ H.size + 1) : q = ad E n ∧ Wd E (n + 1) (hset h n c) H1 ∧ H1.size = H.size + 1 := by
  obtain ⟨h5, hz, hc, hf⟩ := hW
  have hlast : (ws ++ [(q, cc E c)])[ws.length]? = some (q, cc E c) := by rw [List.getElem?_append_right (Nat.le_refl _), Nat.sub_self]; rfl
  have hold : ∀ (j : Nat) (x : Nat × va_E), ws[j]? = some x → (ws ++ [(q, cc E c)])[j]? = some x := fun j x hj => by
    rw [List.getElem?_append_left (List.getElem?_eq_some_iff.mp hj).1]; exact hj
  have hq1 : q < H1.size := (hP _ _ hlast).lt
  have hq2 : eB E ≤ q := hD.2 _ _ hlast
  have hq3 : ¬ q < eB E + (n - 5) := by
    intro hlt
    have hp := hf (q - eB E + 5) (by omega) (by omega)
    obtain ⟨c1, hc1⟩ := Option.isSome_iff_exists.mp hp
    obtain ⟨j, hj⟩ := hm _ _ hc1
    have e : (ad E (q - eB E + 5)) = q := by rw [ad_in (by omega)]; omega
    have := hD.1 j ws.length _ _ (hold _ _ hj) hlast e
    have := (List.getElem?_eq_some_iff.mp hj).1
    omega
  have hqe : q = ad E n := by rw [ad_in h5]; omega
  refine ⟨hqe, ⟨by omega, by rw [ad_in h5] at hqe; omega, fun p c1 hp => ?_, fun p g1 g2 => ?_⟩, by rw [ad_in h5] at hqe; omega⟩
  · by_cases e : p = n
    · subst e
      rw [hset_eq] at hp
      cases hp
      refine ⟨h5, by omega, ?_⟩
      rw [← hqe]
      exact hP _ _ hlast
    · rw [hset_ne h c e] at hp
      obtain ⟨g1, g2, g3⟩ := hc p c1 hp
      obtain ⟨j, hj⟩ := hm _ _ hp
      exact ⟨g1, by omega, hP _ _ (hold _ _ hj)⟩
  · by_cases e : p = n
    · rw [e, hset_eq]; rfl
    · rw [hset_ne h c e]; exact hf p g1 (by omega)
