/-! calls over the abstract world -/
theorem tb_in {y : MethodName} {b : ByteArray} {nL : Nat} {ret : Option FieldType} (hc : Cond.code y b nL ret ∈ tbG) : GoodIn tbG (.code y b nL ret :: tbG) := by
  intro w hw
  have h1 : w ∈ tbG := by
    rcases List.mem_cons.mp hw with rfl | h
    · exact hc
    · exact h
  exact ⟨h1, good_of_word (List.mem_filter.mp h1).2⟩
theorem Wd.szk {E : EV} {n n' d k : Nat} {h h' : HP} {H H1 : Heap} {z : Nat} (hW : Wd E n h H) (hW1 : Wd E n' h' H1) (hn : n' = n + d) (hz : H.size = z + k) : H1.size = z + (k + d) := by
  have h1 := hW.2.1
  have h2 := hW1.2.1
  have h3 := hW.1
  omega
/-- what the tables say of a method -/
def MF (y : MethodName) (b : ByteArray) (nL : Nat) (ret : Option FieldType) (np : Nat) : Prop :=
  Cond.code y b nL ret ∈ tbG ∧ Cond.initialized y.cls ∈ tbG ∧ (y.cls ≠ "java/lang/invoke/MethodHandle" ∧ y.cls ≠ "java/lang/invoke/VarHandle" ∧ (parseMethodDescriptor y.desc).map (fun d => d.parameters.length) = some np) ∧ plainFor y = true
theorem va_F.refl {A : Nat → Prop} (s : State) : va_F A s s := ⟨Nat.le_refl _, fun _ _ _ => rfl⟩
theorem Met.ofWF {l : Launch} {y : MethodName} {ws ws' : List Cond} {rm : Room} {Pc : Array Value → State → Prop} {Qc : Array Value → State → Outcome → State → Prop} {mc ms : Nat} {free : Addr → Prop} {b : ByteArray} {maxL : Nat} {ret : Option FieldType} (hy : plainFor y = true) (hw : ws = Cond.code y b maxL ret :: ws')
    (body : ∀ p e s m args below meth c s₁, BodyLoose p l y (headSpec ws rm) b maxL ret e s m args below meth c s₁ → c.maxLocals = maxL → Pc args s →
      W p l e (headSpec ws rm).room s m args below meth c s.heap [] 0 0 (MQ below Qc args s mc ms free) (entryFrame m args maxL)) : Met l y ws rm Pc Qc mc ms free := by
  refine MetFree.of_bodySF (code := b) (maxLocals := maxL) (ret := ret) hy ?_ ?_
  · intro args s m h hn
    obtain ⟨meth, c, h1, h2, h3, h4, h5, h6, -, -⟩ := Cond.code_spec hn (atoms_spec (ws := ws) h _ (by rw [hw]; exact List.mem_cons_self))
    exact ⟨meth, c, h1, h2, h3, h4, h5, h6⟩
  · intro p e s m args below meth c s₁ B hml hP _
    obtain ⟨t, a1, o, b1, b2, b3⟩ := body p e s m args below meth c s₁ B hml hP s₁ (by rw [B.state]; rfl) (Stand.of_body B)
    exact ⟨t, o, a1, b1, b2, b3.1, b3.2⟩
/-- a contract out of the walk of its body -/
theorem AM.intro {l : Launch} {y : MethodName} {b : ByteArray} {nL np : Nat} {ret : Option FieldType} {fr lo mc ms : Nat} {E : EV} {n : Nat} {h : HP} {As : List Value} {post : Option Value → HP → Prop} (hy : MF y b nL ret np) (hcat : ∀ v ∈ As, v.category = 1) (hlen : As.length ≤ nL)
    (body : ∀ X : CX, X.l = l → X.E = E → X.2.2.2.2.2.2.2.2.1.name = y.name → Cx X y.cls b ret fr lo mc ms (n + mc) post → AW X n h 0 0 0 (As.map some ++ List.replicate (nL - As.length) none) []) : AM l y b nL ret fr lo mc ms E n h As post := by
  refine Met.ofWF (b := b) (maxL := nL) (ret := ret) hy.2.2.2 rfl ?_
  intro p e s m args below meth c s₁ B hml hv
  obtain ⟨rfl, hW, hK⟩ := hv
  have hts := atoms_spec (ws := .code y b nL ret :: tbG) B.pre
  have hb := body (p, l, e, (headSpec (.code y b nL ret :: tbG) (rmA fr lo mc ms)).room, s, m, (As.map (cv E)).toArray, below, meth, c, MQ below (AQ E (n + mc) post) (As.map (cv E)).toArray s mc ms (eA E), E, nL) rfl rfl
    (name_of_methodNamed B.named B.method).1
    ⟨B.exec, B.bytes, hml, findClass_of_methodNamed B.named, fun w hw => hts w (List.mem_cons_of_mem _ hw), hK, B.notSynchronized, B.returns, rfl, rfl⟩
  rw [lg_entry_eq]
  have hcat' : ∀ v ∈ As.map (cv E), v.category = 1 := by
    intro v hv
    obtain ⟨w, h1, rfl⟩ := List.mem_map.mp hv
    exact (cv_cat E w).trans (hcat w h1)
  have hsl : lg_sl (As.map (cv E)) = (As.map (cv E)).map Slot.val := lg_sl_one _ hcat'
  have hle : (lg_sl (As.map (cv E))).length ≤ nL := by rw [hsl, List.length_map, List.length_map]; exact hlen
  have hl := lv_entry (As.map (cv E)) (n := nL) hle
  refine hb s.heap [] _ hW va_S.rf rfl ⟨hl.1, hl.2.1, ?_, ?_⟩
  · rw [List.length_append, List.length_map, List.length_replicate]
    omega
  · intro i v hi
    rcases Nat.lt_or_ge i As.length with q | q
    · rw [List.getElem?_append_left (by rw [List.length_map]; exact q), List.getElem?_map] at hi
      obtain ⟨w, h1, h2⟩ := Option.map_eq_some_iff.mp hi
      cases h2
      refine ⟨?_, hcat _ (List.mem_of_getElem? h1)⟩
      rw [hsl, List.getElem?_toArray, List.getElem?_append_left (by rw [List.length_map, List.length_map]; exact q), List.getElem?_map, List.getElem?_map, h1]
      rfl
    · rw [List.getElem?_append_right (by rw [List.length_map]; exact q)] at hi
      have := List.mem_of_getElem? hi
      exact absurd (List.eq_of_mem_replicate this) (by simp)
theorem blindA {E : EV} {n : Nat} {h : HP} {As : List Value} : FrameBlind (va_Pc As (fun U => Wd E n h U.heap ∧ Ks E U)) := fun a U g mk q =>
  ⟨q.1, q.2.1, q.2.2.moved (u := U) (U := U.calling g mk a) (State.WarmedH.refl U) (Nat.le_refl _) (fun _ _ _ => rfl)⟩
theorem W.ofRun {p : Program} {l : Launch} {e : Env} {R : Room} {s : State} {m : MethodId} {args a : Array Value} {below : List Frame} {meth : Method} {c : Code} {H : Heap} {locs : List Loc} {cells slots mc ms pc n' : Nat} {ls : Array Slot} {st0 rest : List Value} {Q : State → Prop} {E : EV} {post : Option Value → HP → Prop}
    (hr : va_Run p l e R s m args below meth c H locs cells slots mc ms (F0 m pc ls st0) rest (AQ E n' post a) (eA E)) (hS : va_S (eA E) s.heap H locs)
    (kk : ∀ (v : Option Value) (h' : HP) (H1 : Heap) (locs1 : List Loc), post v h' → Wd E n' h' H1 → va_S (eA E) s.heap H1 locs1 → W p l e R s m args below meth c H1 locs1 (cells + mc) (slots + ms) Q (F0 m (pc + 3) ls ((v.map (cv E)).toList ++ rest))) : W p l e R s m args below meth c H locs cells slots Q (F0 m pc ls st0) := by
  intro T hT X
  obtain ⟨v, st₀, t, T', L, h0, X', hL, e1, e2, ⟨⟨w, h', hv, hp, hw⟩, hz, hk⟩, st⟩ := hr T hT X
  cases hv
  rw [h0] at hz hk
  obtain ⟨t2, a1, b1⟩ := kk w h' T'.heap (locs ++ L) hp (by rw [e1]; exact hw)
    ⟨Nat.le_trans hS.1 (by rw [e1]; exact hz), fun q h1 h2 => by rw [e1, hk q (Nat.lt_of_lt_of_le h1 hS.1) h2]; exact hS.2.1 q h1 h2, fun q hq => by
      rcases List.mem_append.mp hq with h | h
      · exact hS.2.2 q h
      · exact hL q h⟩ T' rfl X'
  exact ⟨t2, st t2 a1, b1⟩
theorem cv_toList (E : EV) (v : Option Value) (st : List Value) : (v.map (cv E)).toList ++ st.map (cv E) = (v.toList ++ st).map (cv E) := by cases v <;> rfl
theorem cat_map (E : EV) (st : List Value) : ((st.map (cv E)).map fun v => v.category) = st.map fun v => v.category := by
  rw [List.map_map]
  exact List.map_congr_left (fun v _ => cv_cat E v)
theorem Ks.at {E : EV} {s U : State} {H : Heap} {locs : List Loc} (hK : Ks E s) (hS : va_S (eA E) s.heap H locs) (hU : U.heap = H) (hW : s.WarmedH U.vm) : Ks E U :=
  hK.moved hW (by rw [hU]; exact hS.1) (fun a h1 h2 => by rw [hU]; exact hS.2.1 a h1 h2)
section ACALL
variable {X : CX} {own : String} {bytes : ByteArray} {ret : Option FieldType} {fr lo mc ms n1 : Nat} {post : Option Value → HP → Prop} {n k sl pc : Nat} {h : HP} {L : List (Option Value)} {st st0 : List Value}
variable {y : MethodName} {b' : ByteArray} {nL' np : Nat} {ret' : Option FieldType} {fr' lo' mc' ms' ix a ci : Nat} {As fs : List Value} {post' : Option Value → HP → Prop} {C : String} {T : u_T} {N : Nat}
/-- an instance method of the class that the receiver has -/
theorem aw_callV (hX : Cx X own bytes ret fr lo mc ms n1 post) (own2 : String) (ho : own2 = own) (hM : AM X.l y b' nL' ret' fr' lo' mc' ms' X.E n h (.ref a :: As) post') (hst0 : As.reverse ++ .ref a :: st = st0) (hy : MF y b' nL' ret' np) (hi : Cond.instanceMethod y ∈ tbG) (hsel : Cond.selects y.cls y y ∈ tbG) (hlink : Cond.methodLink own2 ix y ∈ tbG)
    (hh : h a = some (cO ci fs)) (hcl : vwCl[ci]? = some (y.cls, T, N)) (hnp : As.length = np) (hR : fr' + 1 ≤ fr ∧ 8 + (nL' + 11) + lo' ≤ lo) (hst : (st.map fun v => v.category).sum ≤ 8) (hdg : decode bytes pc = .ok (.invokevirtual ix, 3)) (hf : k + mc' ≤ mc ∧ sl + ms' ≤ ms)
    (kk : ∀ v h', post' v h' → AW X (n + mc') h' (k + mc') (sl + ms') (pc + 3) L (v.toList ++ st)) : AW X n h k sl pc L st0 := by
  obtain ⟨p, l, e, R, s, m, args, below, meth, c, Q, E, nL⟩ := X
  obtain ⟨hx, hb, hml, hown, hts, hK, hlk, hr, rfl, hQ⟩ := hX
  subst ho
  subst hst0
  intro H locs ls hW hS hz hl
  obtain ⟨ws, q0, hP, hD, hq, -⟩ := Wd.list hW hh
  refine W.ofRun (va_runV (As := As.map (cv E)) (rest := st.map (cv E)) (b := ad E a) (C := y.cls) ⟨hx, hb, hml, hown, hts⟩ hM ⟨callB_of np hts (tb_in hy.1) rfl rfl rfl (hts _ hy.2.1) (hts _ hlink) hy.2.2.1 hR, hts _ hi, hts _ hsel⟩
    ⟨blindA, va_recv hK.1 hP hcl hq, fun U hU hWm => ⟨rfl, by rw [hU]; exact hW, hK.at hS hU hWm⟩⟩ rfl (by rw [List.length_map]; exact hnp) hl.1 (by simp [cv_ref]) (by rw [cat_map]; exact lv_room hst) hdg hf) hS (fun v h' H1 locs1 hp hW1 hS1 => ?_)
  rw [cv_toList]
  exact kk v h' hp H1 locs1 ls hW1 hS1 (Wd.szk hW hW1 rfl hz) hl
/-- the same, of a nest mate -/
theorem aw_callVN (hX : Cx X own bytes ret fr lo mc ms n1 post) (own2 host : String) (ho : own2 = own) (hM : AM X.l y b' nL' ret' fr' lo' mc' ms' X.E n h (.ref a :: As) post') (hst0 : As.reverse ++ .ref a :: st = st0) (hy : MF y b' nL' ret' np) (hi : Cond.instanceMethod y ∈ tbG) (hsel : Cond.selects y.cls y y ∈ tbG) (hlink : Cond.methodLinkNest own2 ix y host ∈ lw_tbl)
    (hh : h a = some (cO ci fs)) (hcl : vwCl[ci]? = some (y.cls, T, N)) (hnp : As.length = np) (hR : fr' + 1 ≤ fr ∧ 8 + (nL' + 11) + lo' ≤ lo) (hst : (st.map fun v => v.category).sum ≤ 8) (hdg : decode bytes pc = .ok (.invokevirtual ix, 3)) (hf : k + mc' ≤ mc ∧ sl + ms' ≤ ms)
    (kk : ∀ v h', post' v h' → AW X (n + mc') h' (k + mc') (sl + ms') (pc + 3) L (v.toList ++ st)) : AW X n h k sl pc L st0 := by
  obtain ⟨p, l, e, R, s, m, args, below, meth, c, Q, E, nL⟩ := X
  obtain ⟨hx, hb, hml, hown, hts, hK, hlk, hr, rfl, hQ⟩ := hX
  subst ho
  subst hst0
  intro H locs ls hW hS hz hl
  obtain ⟨ws, q0, hP, hD, hq, -⟩ := Wd.list hW hh
  refine W.ofRun (va_runVN (As := As.map (cv E)) (rest := st.map (cv E)) (b := ad E a) (C := y.cls) ⟨hx, hb, hml, hown, hts⟩ hM ⟨va_cnB np hts (tb_in hy.1) rfl rfl rfl (hK.nest hlink rfl) (hts _ hy.2.1) hy.2.2.1 hR, hts _ hi, hts _ hsel⟩
    ⟨blindA, va_recv hK.1 hP hcl hq, fun U hU hWm => ⟨rfl, by rw [hU]; exact hW, hK.at hS hU hWm⟩⟩ rfl (by rw [List.length_map]; exact hnp) hl.1 (by simp [cv_ref]) (by rw [cat_map]; exact lv_room hst) hdg hf) hS (fun v h' H1 locs1 hp hW1 hS1 => ?_)
  rw [cv_toList]
  exact kk v h' hp H1 locs1 ls hW1 hS1 (Wd.szk hW hW1 rfl hz) hl
/-- a static method -/
theorem aw_callS (hX : Cx X own bytes ret fr lo mc ms n1 post) (own2 : String) (ho : own2 = own) (hM : AM X.l y b' nL' ret' fr' lo' mc' ms' X.E n h As post') (hst0 : As.reverse ++ st = st0) (hy : MF y b' nL' ret' np) (hs : Cond.static y ∈ tbG) (hlink : Cond.methodLink own2 ix y ∈ tbG)
    (hnp : As.length = np) (hR : fr' + 1 ≤ fr ∧ 8 + (nL' + 11) + lo' ≤ lo) (hst : (st.map fun v => v.category).sum ≤ 8) (hdg : decode bytes pc = .ok (.invokestatic ix, 3)) (hf : k + mc' ≤ mc ∧ sl + ms' ≤ ms)
    (kk : ∀ v h', post' v h' → AW X (n + mc') h' (k + mc') (sl + ms') (pc + 3) L (v.toList ++ st)) : AW X n h k sl pc L st0 := by
  obtain ⟨p, l, e, R, s, m, args, below, meth, c, Q, E, nL⟩ := X
  obtain ⟨hx, hb, hml, hown, hts, hK, hlk, hr, rfl, hQ⟩ := hX
  subst ho
  subst hst0
  intro H locs ls hW hS hz hl
  refine W.ofRun (va_runS (As := As.map (cv E)) (rest := st.map (cv E)) ⟨hx, hb, hml, hown, hts⟩ hM ⟨callB_of np hts (tb_in hy.1) rfl rfl rfl (hts _ hy.2.1) (hts _ hlink) hy.2.2.1 hR, hts _ hs⟩
    ⟨blindA, fun U hU hWm => ⟨rfl, by rw [hU]; exact hW, hK.at hS hU hWm⟩⟩ rfl (by rw [List.length_map]; exact hnp) hl.1 (by simp) (by rw [cat_map]; exact lv_room hst) hdg hf) hS (fun v h' H1 locs1 hp hW1 hS1 => ?_)
  rw [cv_toList]
  exact kk v h' hp H1 locs1 ls hW1 hS1 (Wd.szk hW hW1 rfl hz) hl
/-- a static method of a nest mate -/
theorem aw_callSN (hX : Cx X own bytes ret fr lo mc ms n1 post) (own2 host : String) (ho : own2 = own) (hM : AM X.l y b' nL' ret' fr' lo' mc' ms' X.E n h As post') (hst0 : As.reverse ++ st = st0) (hy : MF y b' nL' ret' np) (hs : Cond.static y ∈ tbG) (hlink : Cond.methodLinkNest own2 ix y host ∈ lw_tbl)
    (hnp : As.length = np) (hR : fr' + 1 ≤ fr ∧ 8 + (nL' + 11) + lo' ≤ lo) (hst : (st.map fun v => v.category).sum ≤ 8) (hdg : decode bytes pc = .ok (.invokestatic ix, 3)) (hf : k + mc' ≤ mc ∧ sl + ms' ≤ ms)
    (kk : ∀ v h', post' v h' → AW X (n + mc') h' (k + mc') (sl + ms') (pc + 3) L (v.toList ++ st)) : AW X n h k sl pc L st0 := by
  obtain ⟨p, l, e, R, s, m, args, below, meth, c, Q, E, nL⟩ := X
  obtain ⟨hx, hb, hml, hown, hts, hK, hlk, hr, rfl, hQ⟩ := hX
  subst ho
  subst hst0
  intro H locs ls hW hS hz hl
  refine W.ofRun (va_runSN (As := As.map (cv E)) (rest := st.map (cv E)) ⟨hx, hb, hml, hown, hts⟩ hM ⟨va_cnB np hts (tb_in hy.1) rfl rfl rfl (hK.nest hlink rfl) (hts _ hy.2.1) hy.2.2.1 hR, hts _ hs, trivial⟩
    ⟨blindA, fun U hU hWm => ⟨rfl, by rw [hU]; exact hW, hK.at hS hU hWm⟩⟩ rfl (by rw [List.length_map]; exact hnp) hl.1 (by simp) (by rw [cat_map]; exact lv_room hst) hdg hf) hS (fun v h' H1 locs1 hp hW1 hS1 => ?_)
  rw [cv_toList]
  exact kk v h' hp H1 locs1 ls hW1 hS1 (Wd.szk hW hW1 rfl hz) hl
/-- a constructor -/
theorem aw_callI (hX : Cx X own bytes ret fr lo mc ms n1 post) (own2 : String) (ho : own2 = own) (hM : AM X.l y b' nL' none fr' lo' mc' ms' X.E n h (.ref a :: As) post') (hst0 : As.reverse ++ .ref a :: st = st0) (hy : MF y b' nL' none np) (hi : Cond.instanceMethod y ∈ tbG) (hy1 : y.name = "<init>") (hlink : Cond.methodLink own2 ix y ∈ tbG)
    (hnp : As.length = np) (hR : fr' + 1 ≤ fr ∧ 8 + (nL' + 11) + lo' ≤ lo) (hst : (st.map fun v => v.category).sum ≤ 8) (hdg : decode bytes pc = .ok (.invokespecial ix, 3)) (hf : k + mc' ≤ mc ∧ sl + ms' ≤ ms)
    (kk : ∀ v h', post' v h' → AW X (n + mc') h' (k + mc') (sl + ms') (pc + 3) L (v.toList ++ st)) : AW X n h k sl pc L st0 := by
  obtain ⟨p, l, e, R, s, m, args, below, meth, c, Q, E, nL⟩ := X
  obtain ⟨hx, hb, hml, hown, hts, hK, hlk, hr, rfl, hQ⟩ := hX
  subst ho
  subst hst0
  intro H locs ls hW hS hz hl
  refine W.ofRun (va_runI (As := As.map (cv E)) (rest := st.map (cv E)) (b := ad E a) ⟨hx, hb, hml, hown, hts⟩ hM ⟨callB_of np hts (tb_in hy.1) rfl rfl rfl (hts _ hy.2.1) (hts _ hlink) hy.2.2.1 hR, hy1, hts _ hi⟩
    ⟨blindA, fun U hU hWm => ⟨rfl, by rw [hU]; exact hW, hK.at hS hU hWm⟩⟩ rfl (by rw [List.length_map]; exact hnp) hl.1 (by simp [cv_ref]) (by rw [cat_map]; exact lv_room hst) hdg hf) hS (fun v h' H1 locs1 hp hW1 hS1 => ?_)
  rw [cv_toList]
  exact kk v h' hp H1 locs1 ls hW1 hS1 (Wd.szk hW hW1 rfl hz) hl
/-- a constructor of a nest mate -/
theorem aw_callIN (hX : Cx X own bytes ret fr lo mc ms n1 post) (own2 host : String) (ho : own2 = own) (hM : AM X.l y b' nL' none fr' lo' mc' ms' X.E n h (.ref a :: As) post') (hst0 : As.reverse ++ .ref a :: st = st0) (hy : MF y b' nL' none np) (hi : Cond.instanceMethod y ∈ tbG) (hy1 : y.name = "<init>") (hlink : Cond.methodLinkNest own2 ix y host ∈ lw_tbl)
    (hnp : As.length = np) (hR : fr' + 1 ≤ fr ∧ 8 + (nL' + 11) + lo' ≤ lo) (hst : (st.map fun v => v.category).sum ≤ 8) (hdg : decode bytes pc = .ok (.invokespecial ix, 3)) (hf : k + mc' ≤ mc ∧ sl + ms' ≤ ms)
    (kk : ∀ v h', post' v h' → AW X (n + mc') h' (k + mc') (sl + ms') (pc + 3) L (v.toList ++ st)) : AW X n h k sl pc L st0 := by
  obtain ⟨p, l, e, R, s, m, args, below, meth, c, Q, E, nL⟩ := X
  obtain ⟨hx, hb, hml, hown, hts, hK, hlk, hr, rfl, hQ⟩ := hX
  subst ho
  subst hst0
  intro H locs ls hW hS hz hl
  refine W.ofRun (va_runIN (As := As.map (cv E)) (rest := st.map (cv E)) (b := ad E a) ⟨hx, hb, hml, hown, hts⟩ hM ⟨va_cnB np hts (tb_in hy.1) rfl rfl rfl (hK.nest hlink rfl) (hts _ hy.2.1) hy.2.2.1 hR, hy1, hts _ hi⟩
    ⟨blindA, fun U hU hWm => ⟨rfl, by rw [hU]; exact hW, hK.at hS hU hWm⟩⟩ rfl (by rw [List.length_map]; exact hnp) hl.1 (by simp [cv_ref]) (by rw [cat_map]; exact lv_room hst) hdg hf) hS (fun v h' H1 locs1 hp hW1 hS1 => ?_)
  rw [cv_toList]
  exact kk v h' hp H1 locs1 ls hW1 hS1 (Wd.szk hW hW1 rfl hz) hl
/-- Object.<init> -/
theorem aw_obj (hX : Cx X own bytes ret fr lo mc ms n1 post) (own2 : String) (ho : own2 = own) (hlink : Cond.methodLink own2 ix objectInit ∈ tbG) (hi : Cond.instanceMethod objectInit ∈ tbG) (hc : Cond.code objectInit ⟨#[0xb1]⟩ 1 none ∈ tbG) (hR : 1 ≤ fr ∧ 20 ≤ lo) (hst : (st.map fun v => v.category).sum ≤ 8) (hdg : decode bytes pc = .ok (.invokespecial ix, 3))
    (kk : AW X n h k sl (pc + 3) L st) : AW X n h k sl pc L (.ref a :: st) := by
  obtain ⟨p, l, e, R, s, m, args, below, meth, c, Q, E, nL⟩ := X
  obtain ⟨hx, hb, hml, hown, hts, hK, hlk, hr, rfl, hQ⟩ := hX
  subst ho
  intro H locs ls hW hS hz hl
  have hst' := lv_room (m := m) (pc := pc) (ls := ls) (rest := (Value.ref a :: st).map (cv E)) hst
  rw [← cat_map E st] at hst'
  exact W.objInit hx hb hown (hts _ hlink) (hts _ hi) (hts _ hc) rfl (hl.1.trans hml.symm) rfl hdg hR.1 (by have := hR.2; show _ ≤ lo; omega) (kk H locs ls hW hS hz hl)
end ACALL
