/-! rows that make cells, and arraycopy -/
section AALLOC
variable {X : CX} {own : String} {bytes : ByteArray} {ret : Option FieldType} {fr lo mc ms n1 : Nat} {post : Option Value → HP → Prop} {n k sl pc : Nat} {h : HP} {L : List (Option Value)} {st : List Value}
theorem cls_int {E : EV} {s : State} (hK : va_K (eD E) vwCl (tysE E) s) : s.vm.findClass "[I" = some (eC E 0) := (hK.2 0 _ rfl).2
theorem cls_long {E : EV} {s : State} (hK : va_K (eD E) vwCl (tysE E) s) : s.vm.findClass "[J" = some (eC E 3) := (hK.2 3 _ rfl).2
theorem cls_st {E : EV} {s : State} (hK : va_K (eD E) vwCl (tysE E) s) : s.vm.findClass ("[" ++ (FieldType.object RX8).toString) = some (eC E 2) := by
  obtain ⟨kA, comp, -, -, -, h⟩ := (hK.2 2 _ rfl).2
  exact h
theorem last_tys {D : va_G} {cl : List vw_C} {tys : List (ClassId × FieldType)} {x : ClassId × FieldType} {s : State} (h : va_K D cl (tys ++ [x]) s) : ArrOfT s x.1 x.2 ∧ va_RA s x.1 x.2 :=
  h.2 tys.length x (by rw [List.getElem?_append_right (Nat.le_refl _), Nat.sub_self]; rfl)
theorem aw_new (hX : Cx X own bytes ret fr lo mc ms n1 post) (own2 : String) (ho : own2 = own) {C : String} {T : u_T} {N ci ix : Nat} {fs : List Value} (hc : vwCl[ci]? = some (C, T, N)) (hin : ∀ w ∈ u_ws C T N, w ∈ tbG) (ty : Nat → FieldType) (hty : ∀ k, k < N → parseFieldDescriptor (T k).2.2.1 = some (ty k))
    (hcl : Cond.classLink own2 ix C ∈ tbG) (hinst : Cond.instantiable C N ∈ tbG) (hini : Cond.initialized C ∈ tbG) (hfs : ∀ j, j < N → defaultValue (ty j) = vp_V fs j) (hfc : fs.map (cv X.E) = fs) (hcells : k + 1 ≤ mc) (hslots : sl + N ≤ ms) (hdg : decode bytes pc = .ok (.new ix, 3))
    (kk : AW X (n + 1) (hset h n (cO ci fs)) (k + 1) (sl + N) (pc + 3) L (.ref n :: st)) : AW X n h k sl pc L st := by
  obtain ⟨p, l, e, R, s, m, args, below, meth, c, Q, E, nL⟩ := X
  obtain ⟨hx, hb, hml, hown, hts, hK, hlk, hr, rfl, hQ⟩ := hX
  subst ho
  intro H locs ls hW hS hz hl
  obtain ⟨ws, hP, hD, hm, -⟩ := hW.all
  refine va_new hx hb hts hin ty hty hown (hts _ hcl) (hts _ hinst) (hts _ hini) hK.1 hP hD hS (fun q hq => Nat.le_trans hK.2.2.2.2.2 hq) hc (fs := fs) hfs hcells hslots hdg (fun q H1 hP1 hD1 hS1 => W.sz (fun hsz => ?_))
  have e1 : ((q, Sum.inr (ci, fs)) : Nat × va_E) = (q, cc E (cO ci fs)) := by
    show _ = ((q, Sum.inr (ci, fs.map (cv E))) : Nat × va_E)
    rw [show fs.map (cv E) = fs from hfc]
  rw [e1] at hP1 hD1
  obtain ⟨rfl, hW1, hz1⟩ := hW.grow hm hP1 hD1 (by omega)
  exact kk H1 locs ls hW1 hS1 (by omega) hl
theorem aw_newarr (hX : Cx X own bytes ret fr lo mc ms n1 post) {z : Int32} (N : Nat) (hac : Cond.arrayClass .int ∈ tbG) (hn : ¬ z < 0) (hN : z.toNatClampNeg = N) (hb4 : N * 4 ≤ 536870912) (hcells : k + 1 ≤ mc) (hslots : sl + N ≤ ms) (hdg : decode bytes pc = .ok (.newarray .int, 2))
    (kk : AW X (n + 1) (hset h n (cI N (fun _ => 0))) (k + 1) (sl + N) (pc + 2) L (.ref n :: st)) : AW X n h k sl pc L (.int z :: st) := by
  obtain ⟨p, l, e, R, s, m, args, below, meth, c, Q, E, nL⟩ := X
  obtain ⟨hx, hb, hml, hown, hts, hK, hlk, hr, rfl, hQ⟩ := hX
  intro H locs ls hW hS hz hl
  obtain ⟨ws, hP, hD, hm, -⟩ := hW.all
  refine va_newa (atype := .int) (ty := .int) hx hb (hts _ hac) rfl hK.1 hP hD hS (fun q hq => Nat.le_trans hK.2.2.2.2.2 hq) (a0 := (N, .inl (fun _ => 0))) (fun _ => rfl) hn hN hb4 hcells hslots hdg (fun q cA H1 hK1 hP1 hD1 hS1 => W.sz (fun hsz => ?_))
  have hcA : cA = eC E 0 := Option.some.inj ((last_tys hK1).2.symm.trans (cls_int hK.1))
  subst hcA
  obtain ⟨rfl, hW1, hz1⟩ := hW.grow (c := cI N (fun _ => 0)) hm hP1 hD1 (by omega)
  exact kk H1 locs ls hW1 hS1 (by omega) hl
/-- new long[N] -/
theorem aw_newlong (hX : Cx X own bytes ret fr lo mc ms n1 post) {z : Int32} (N : Nat) (hac : Cond.arrayClass .long ∈ tbG) (hn : ¬ z < 0) (hN : z.toNatClampNeg = N) (hb4 : N * 8 ≤ 536870912) (hcells : k + 1 ≤ mc) (hslots : sl + N ≤ ms) (hdg : decode bytes pc = .ok (.newarray .long, 2))
    (kk : AW X (n + 1) (hset h n (cL N (fun _ => 0))) (k + 1) (sl + N) (pc + 2) L (.ref n :: st)) : AW X n h k sl pc L (.int z :: st) := by
  obtain ⟨p, l, e, R, s, m, args, below, meth, c, Q, E, nL⟩ := X
  obtain ⟨hx, hb, hml, hown, hts, hK, hlk, hr, rfl, hQ⟩ := hX
  intro H locs ls hW hS hz hl
  obtain ⟨ws, hP, hD, hm, -⟩ := hW.all
  refine va_newa (atype := .long) (ty := .long) hx hb (hts _ hac) rfl hK.1 hP hD hS (fun q hq => Nat.le_trans hK.2.2.2.2.2 hq) (a0 := (N, .inr (.inl (fun _ => 0)))) (fun _ => rfl) hn hN hb4 hcells hslots hdg (fun q cA H1 hK1 hP1 hD1 hS1 => W.sz (fun hsz => ?_))
  have hcA : cA = eC E 3 := Option.some.inj ((last_tys hK1).2.symm.trans (cls_long hK.1))
  subst hcA
  obtain ⟨rfl, hW1, hz1⟩ := hW.grow (c := cL N (fun _ => 0)) hm hP1 hD1 (by omega)
  exact kk H1 locs ls hW1 hS1 (by omega) hl
/-- new State[N] -/
theorem aw_newst (hX : Cx X own bytes ret fr lo mc ms n1 post) (own2 : String) (ho : own2 = own) {z : Int32} {ix : Nat} (N : Nat) (hcl : Cond.classLink own2 ix RX8 ∈ tbG) (hover : Cond.arrayOver (.object RX8) ∈ lw_tbl) (hn : ¬ z < 0) (hN : z.toNatClampNeg = N) (hb4 : N * 4 ≤ 536870912) (hcells : k + 1 ≤ mc) (hslots : sl + N ≤ ms) (hdg : decode bytes pc = .ok (.anewarray ix, 3))
    (kk : AW X (n + 1) (hset h n (cG 2 N (fun _ => none))) (k + 1) (sl + N) (pc + 3) L (.ref n :: st)) : AW X n h k sl pc L (.int z :: st) := by
  obtain ⟨p, l, e, R, s, m, args, below, meth, c, Q, E, nL⟩ := X
  obtain ⟨hx, hb, hml, hown, hts, hK, hlk, hr, rfl, hQ⟩ := hX
  subst ho
  intro H locs ls hW hS hz hl
  obtain ⟨ws, hP, hD, hm, -⟩ := hW.all
  refine va_newq hx hb hown (hts _ hcl) (hK.2.2.2.2.1 _ hover rfl) hK.1 hP hD hS (fun q hq => Nat.le_trans hK.2.2.2.2.2 hq) hn hN hb4 hcells hslots hdg (fun q cA H1 hK1 hP1 hD1 hS1 => W.sz (fun hsz => ?_))
  have hcA : cA = eC E 2 := by
    obtain ⟨kA, comp, -, -, -, h1⟩ := (last_tys hK1).2
    exact Option.some.inj (h1.symm.trans (cls_st hK.1))
  subst hcA
  obtain ⟨rfl, hW1, hz1⟩ := hW.grow (c := cG 2 N (fun _ => none)) hm hP1 hD1 (by omega)
  exact kk H1 locs ls hW1 hS1 (by omega) hl
/-- a State into an array of them -/
theorem aw_ast (hX : Cx X own bytes ret fr lo mc ms n1 post) {a b N : Nat} {g : Nat → Option Nat} {vs : List Value} {i : Int32} (hh : h a = some (cG 2 N g)) (hv : h b = some (cO 8 vs)) (hin : vp_in i N) (hdg : decode bytes pc = .ok (.aastore, 1))
    (kk : AW X n (hset h a (cG 2 N (va_up g i.toNatClampNeg (some b)))) k sl (pc + 1) L st) : AW X n h k sl pc L (.ref b :: .int i :: .ref a :: st) := by
  obtain ⟨p, l, e, R, s, m, args, below, meth, c, Q, E, nL⟩ := X
  obtain ⟨hx, hb, hml, hown, hts, hK, hlk, hr, rfl, hQ⟩ := hX
  intro H locs ls hW hS hz hl
  obtain ⟨ws, hP, hD, hm, hback⟩ := hW.all
  obtain ⟨q0, hq0⟩ := hm a _ hh
  obtain ⟨qk, hqk⟩ := hm b _ hv
  refine va_astq (r := (RX8, TX8, 4)) hx hb hK.1 hP hD hS q0 2 qk 8 hq0 rfl hqk rfl hin hdg (fun H1 locs1 hP1 hD1 hS1 => W.sz (fun hsz => ?_))
  have e1 : cc E (cG 2 N (va_up g i.toNatClampNeg (some b))) = .inl (eC E 2, N, .inr (.inr (.inr (.inr (va_up (fun i => (g i).map (ad E)) i.toNatClampNeg (some (ad E b))))))) := by
    have : (fun j => (va_up g i.toNatClampNeg (some b) j).map (ad E)) = va_up (fun i => (g i).map (ad E)) i.toNatClampNeg (some (ad E b)) := by
      funext j
      unfold va_up
      split <;> rfl
    show Sum.inl (eC E 2, N, Sum.inr (Sum.inr (Sum.inr (Sum.inr (fun j => (va_up g i.toNatClampNeg (some b) j).map (ad E)))))) = _
    rw [this]
  rw [← e1] at hP1
  obtain ⟨hW1, hz1⟩ := hback a _ q0 hh hq0 _ H1 hP1 (by omega)
  exact kk H1 locs1 ls hW1 hS1 (by omega) hl
/-- System.arraycopy of ints -/
theorem aw_acopy (hX : Cx X own bytes ret fr lo mc ms n1 post) (own2 : String) (ho : own2 = own) {ix a0 a n0 n2 : Nat} {f g : Nat → Int32} {sp dp cnt : Int32} (hlink : Cond.methodLink own2 ix arraycopyName ∈ tbG) (hnat : Cond.native arraycopyName ∈ tbG) (hstat : Cond.static arraycopyName ∈ tbG) (hini : Cond.initialized "java/lang/System" ∈ tbG)
    (hh0 : h a0 = some (cI n0 f)) (hh1 : h a = some (cI n2 g)) (h1 : ¬ sp < 0) (h2 : ¬ dp < 0) (h3 : ¬ cnt < 0) (h4 : sp.toNatClampNeg + cnt.toNatClampNeg ≤ n0) (h5 : dp.toNatClampNeg + cnt.toNatClampNeg ≤ n2) (hR : 1 ≤ fr ∧ 8 + (nativeFrameWords "java/lang/System" "arraycopy" 5 + 11) ≤ lo) (hst : (st.map fun v => v.category).sum ≤ 8) (hdg : decode bytes pc = .ok (.invokestatic ix, 3))
    (kk : AW X n (hset h a (cI n2 (va_cpy f g sp.toNatClampNeg dp.toNatClampNeg cnt.toNatClampNeg))) k sl (pc + 3) L st) : AW X n h k sl pc L (.int cnt :: .int dp :: .ref a :: .int sp :: .ref a0 :: st) := by
  obtain ⟨p, l, e, R, s, m, args, below, meth, c, Q, E, nL⟩ := X
  obtain ⟨hx, hb, hml, hown, hts, hK, hlk, hr, rfl, hQ⟩ := hX
  subst ho
  intro H locs ls hW hS hz hl
  obtain ⟨ws, hP, hD, hm, hback⟩ := hW.all
  obtain ⟨q0, hq0⟩ := hm a0 _ hh0
  obtain ⟨q1, hq1⟩ := hm a _ hh1
  refine va_copyi hx hb (hml.trans hl.1.symm) hown (hts _ hlink) (hts _ hnat) (hts _ hstat) (hts _ hini) hK.1 hP hD hS q0 q1 0 0 hq0 hq1 rfl rfl rfl h1 h2 h3 h4 h5 (fun _ _ => rfl) hR.1 (by rw [cat_map]; have := hR.2; show _ ≤ lo; omega) hdg (fun H1 locs1 hP1 hD1 hS1 => W.sz (fun hsz => ?_))
  obtain ⟨hW1, hz1⟩ := hback a _ q1 hh1 hq1 (cI n2 (va_cpy f g sp.toNatClampNeg dp.toNatClampNeg cnt.toNatClampNeg)) H1 hP1 (by omega)
  exact kk H1 locs1 ls hW1 hS1 (by omega) hl
/-- FIRST_NUMBERS.clone() -/
theorem aw_clone0 (hX : Cx X own bytes ret fr lo mc ms n1 post) (own2 : String) (ho : own2 = own) {ix : Nat} (hlink : Cond.methodLink own2 ix ⟨"[I", "clone", "()Ljava/lang/Object;"⟩ ∈ tbG) (hsame : Cond.sameMethod "[I" "java/lang/Object" "clone" "()Ljava/lang/Object;" ∈ tbG)
    (hnat : Cond.native ⟨"java/lang/Object", "clone", "()Ljava/lang/Object;"⟩ ∈ tbG) (hinst : Cond.instanceMethod ⟨"java/lang/Object", "clone", "()Ljava/lang/Object;"⟩ ∈ tbG) (hsel : Cond.selects "[I" ⟨"[I", "clone", "()Ljava/lang/Object;"⟩ ⟨"java/lang/Object", "clone", "()Ljava/lang/Object;"⟩ ∈ tbG) (hcs : Cond.castable "[I" "java/lang/Cloneable" ∈ lw_tbl)
    (hR : 1 ≤ fr ∧ 22 ≤ lo) (hst : (st.map fun v => v.category).sum ≤ 8) (hcells : k + 1 ≤ mc) (hslots : sl + 3 ≤ ms) (hdg : decode bytes pc = .ok (.invokevirtual ix, 3))
    (kk : AW X (n + 1) (hset h n (cI 3 (eF X.E 0))) (k + 1) (sl + 3) (pc + 3) L (.ref n :: st)) : AW X n h k sl pc L (.ref 0 :: st) := by
  obtain ⟨p, l, e, R, s, m, args, below, meth, c, Q, E, nL⟩ := X
  obtain ⟨hx, hb, hml, hown, hts, hK, hlk, hr, rfl, hQ⟩ := hX
  subst ho
  intro H locs ls hW hS hz hl
  obtain ⟨ws, hP, hD, hm, -⟩ := hW.all
  have h0 : ¬ eA E (eT E 0) := (hK.2.2.1 0 (by decide)).choose_spec.2.2.2.2.2.2
  obtain ⟨cell, g1, g2, g3, g4⟩ := hK.2.2.2.1
  have hc0 : H[eT E 0]? = some cell := by
    rw [hS.2.1 _ (Array.getElem?_eq_some_iff.mp g1).1 h0]
    exact g1
  have gc : cell.cls = eC E 0 := show cell.cls = (vp_cell (eC E 0) (3, .inl (eF E 0))).cls by rw [← g4]
  have gs : cell.slots = (vp_cell (eC E 0) (3, .inl (eF E 0))).slots := by rw [← g4]
  have gz : cell.slots.size = 3 := by rw [gs]; exact arrV_size _ _ _
  obtain ⟨c0, t0', f1, f2, f3⟩ := Cond.castable_spec (va_Nw.use (A := args) rfl (hK.2.2.2.2.1 _ hcs rfl))
  have hnm : s.vm.findClass "[I" = some (eC E 0) := cls_int hK.1
  cases hnm.symm.trans f1
  have ht0 : (tysE E)[0]? = some (eC E 0, FieldType.int) := rfl
  have ea : cv E (.ref 0) = .ref (eT E 0) := rfl
  show W p l e _ s m args below meth c H locs k sl Q (F0 m pc ls (cv E (.ref 0) :: st.map (cv E)))
  rw [ea]
  intro T hT X
  obtain ⟨-, kA, hkA, comp, hkind⟩ := State.isArrayOf_alike X.warmed.alike ((hK.1.2 0 _ ht0).1 0 (fun _ => .null))
  obtain ⟨-, kS, hkS, compS, hkindS⟩ := (hK.1.2 0 _ ht0).1 0 (fun _ => .null)
  obtain ⟨vm', X', st'⟩ := X.cloneArray hx hown (hts _ hlink) (hts _ hsame) (hts _ hnat) (hts _ hinst) (hts _ hsel) (a := eT E 0) (cell := cell) (by rw [hT]; exact hc0) (fun k h => by rw [h] at g3; cases g3) g2 (by rw [gc]; exact hnm) f2 (by rw [gc]; exact f3)
    (fun i v hv => by
      have hi : i < 3 := by
        have := (Array.getElem?_eq_some_iff.mp hv).1
        omega
      rw [gs, show (vp_cell (eC E 0) (3, .inl (eF E 0))).slots[i]? = some (.int (eF E 0 i)) from arrV_read _ _ hi] at hv
      cases hv
      rw [gc]
      have hk' : T.vm.classes[eC E 0]? = some kA := hkA
      simpa [State.fitsSlot, State.slotType?, hk', hkind] using (show fits .int (.int (eF E 0 i)) = true from rfl))
    (g := F0 m pc ls (.ref (eT E 0) :: st.map (cv E))) rfl (by rw [hml]; exact hl.1) rfl (by rw [hb]; exact hdg) hR.1 (by show 2 * 0 + ((st.map (cv E)).map fun v => v.category).sum + 14 ≤ lo; rw [cat_map]; have := hR.2; omega) hcells (by rw [gz]; exact hslots) (hloader := by rw [gc]; exact Vm.clonesLoader_of_array hkS hkindS)
  rw [g4, gz] at X'
  generalize hH1 : H.push (vp_cell (eC E 0) (3, .inl (eF E 0))) = H1
  have z1 : H1.size = H.size + 1 := by rw [← hH1, Array.size_push]
  have e1 : H1[H.size]? = some (vp_cell (eC E 0) (3, .inl (eF E 0))) := by rw [← hH1, Array.getElem?_push_size]
  have o1 : ∀ q : Nat, q < H.size → H1[q]? = H[q]? := fun q hq => by rw [← hH1, Array.getElem?_push, if_neg (Nat.ne_of_lt hq)]
  have hk : ∀ (k : Nat) (y : Nat × va_E), ws[k]? = some y → H1[y.1]? = H[y.1]? := fun k y hy => o1 y.1 ((hP k y hy).lt)
  have hP1 : va_P (eD E) vwCl (ws ++ [(H.size, cc E (cI 3 (eF E 0)))]) H1 := (hP.kept hk).app (fun k y hy => by
    have hz : k < 1 := (List.getElem?_eq_some_iff.mp hy).1
    rw [show k = 0 by omega] at hy
    cases hy
    exact e1)
  have hD1 : va_D (eA E) (ws ++ [(H.size, cc E (cI 3 (eF E 0)))]) := hD.push hP rfl (Nat.le_trans hK.2.2.2.2.2 hS.1)
  have hS1 : va_S (eA E) s.heap H1 locs := ⟨Nat.le_trans hS.1 (by omega), fun y h1 h2 => (o1 y (Nat.lt_of_lt_of_le h1 hS.1)).trans (hS.2.1 y h1 h2), hS.2.2⟩
  obtain ⟨he, hW1, hz1⟩ := hW.grow hm hP1 hD1 (by omega)
  obtain ⟨t, b1, b2⟩ := kk H1 locs ls hW1 hS1 (by omega) hl ((T.setVm vm').pushCell (vp_cell (eC E 0) (3, .inl (eF E 0)))) (by rw [← hH1, ← hT]; rfl) X'
  refine ⟨t, st' t ?_, b2⟩
  rw [g4, hT, he]
  exact b1
/-- a cast of an array of ints to its own class -/
theorem aw_castI (hX : Cx X own bytes ret fr lo mc ms n1 post) (own2 : String) (ho : own2 = own) {ix a N : Nat} {f : Nat → Int32} (hlink : Cond.classLink own2 ix "[I" ∈ tbG) (hh : h a = some (cI N f)) (hdg : decode bytes pc = .ok (.checkcast ix, 3))
    (kk : AW X n h k sl (pc + 3) L (.ref a :: st)) : AW X n h k sl pc L (.ref a :: st) := by
  obtain ⟨p, l, e, R, s, m, args, below, meth, c, Q, E, nL⟩ := X
  obtain ⟨hx, hb, hml, hown, hts, hK, hlk, hr, rfl, hQ⟩ := hX
  subst ho
  intro H locs ls hW hS hz hl
  obtain ⟨ws, q0, hP, hD, hq, -⟩ := Wd.list hW hh
  exact va_castA hx hb hown (hts _ hlink) hP q0 hq (cls_int hK.1) hdg (kk H locs ls hW hS hz hl)
end AALLOC
