/-! new int[N][K] -/
def hmna (h : HP) (n N K : Nat) : HP := fun q => if q = n then some (cG 1 N (fun i => if i < N then some (n + 1 + i) else none)) else if n < q ∧ q ≤ n + N then some (cI K (fun _ => 0)) else h q
theorem mna_outer (c : ClassId) (N h0 : Nat) : ∀ i : Nat, Jvm.Free.Multi.outerC c N h0 i = arrV c N (fun j => va_rf (if j < i then some (h0 + 1 + j) else none))
  | 0 => by
    show ({ cls := c, slots := Array.replicate N .null, vm := .none } : Cell) = _
    rw [arrV_new]
    refine congrArg (arrV c N) (funext fun j => ?_)
    simp [va_rf]
  | i + 1 => by
    show (Jvm.Free.Multi.outerC c N h0 i).setSlot i (.ref (h0 + 1 + i)) = _
    rw [mna_outer c N h0 i, arrV_store]
    refine congrArg (arrV c N) (funext fun j => ?_)
    by_cases e : j = i
    · subst e
      simp [updV, va_rf]
    · by_cases h : j < i
      · simp [updV, e, h, Nat.lt_succ_of_lt h]
      · simp [updV, e, h, show ¬ j < i + 1 by omega]
theorem aw_mna {X : CX} {own : String} {bytes : ByteArray} {ret : Option FieldType} {fr lo mc ms n1 : Nat} {post : Option Value → HP → Prop} {n k sl pc : Nat} {h : HP} {L : List (Option Value)} {st : List Value} (hX : Cx X own bytes ret fr lo mc ms n1 post) (own2 : String) (ho : own2 = own) {ix : Nat} {z y : Int32} (N K : Nat) (hcl : Cond.classLink own2 ix "[[I" ∈ tbG) (hover : Cond.arrayOver (.array .int) ∈ lw_tbl) (hac : Cond.arrayClass .int ∈ tbG)
    (hn : ¬ z < 0) (hy : ¬ y < 0) (hN : z.toNatClampNeg = N) (hK' : y.toNatClampNeg = K) (hb1 : N * 4 ≤ 536870912) (hb2 : K * 4 ≤ 536870912) (hcells : k + (1 + N) ≤ mc) (hslots : sl + (N + N * K) ≤ ms) (hdg : decode bytes pc = .ok (.multianewarray ix 2, 4))
    (kk : AW X (n + 1 + N) (hmna h n N K) (k + 1 + N) (sl + N + N * K) (pc + 4) L (.ref n :: st)) : AW X n h k sl pc L (.int y :: .int z :: st) := by
  obtain ⟨p, l, e, R, s, m, args, below, meth, c, Q, E, nL⟩ := X
  obtain ⟨hx, hb, hml, hown, hts, hK, hlk, hr, rfl, hQ⟩ := hX
  subst ho
  subst hN
  subst hK'
  intro H locs ls hW hS hz hl T hT Xs
  obtain ⟨vm₁, cA, comp, -, fA, fC, hO, -, X', step⟩ := Xs.multianewarray2F (ty := .int) hx hown (hts _ hcl) (hK.nest hover rfl) (hts _ hac) (g := F0 m pc ls (.int y :: .int z :: st.map (cv E))) rfl (by rw [hb]; exact hdg) rfl hn hy hb1 hb2 (by omega) rfl rfl hcells hslots
  have ec : eC E 0 = comp := Option.some.inj ((cls_int hK.1).symm.trans fC)
  have eA1 : eC E 1 = cA := Option.some.inj ((show s.vm.findClass "[[I" = some (eC E 1) from (hK.1.2 1 _ rfl).2).symm.trans fA)
  subst ec
  subst eA1
  generalize hF : Jvm.Free.Multi.fill (T.setVm vm₁) (eC E 1) (eC E 0) z.toNatClampNeg y.toNatClampNeg (defaultValue .int) z.toNatClampNeg = F at X' step
  have hTh : (T.setVm vm₁).heap = H := hT
  obtain ⟨f1, f2, -, -⟩ := Jvm.Free.Multi.fill_facts (T.setVm vm₁) (eC E 1) (eC E 0) z.toNatClampNeg y.toNatClampNeg (defaultValue .int) z.toNatClampNeg
  rw [hF, hTh] at f1 f2
  have hold : ∀ x : Nat, x < H.size → F.heap[x]? = H[x]? := fun x hx => by
    have := Jvm.Free.Multi.fill_old (T.setVm vm₁) (eC E 1) (eC E 0) z.toNatClampNeg y.toNatClampNeg (defaultValue .int) (a := x) (by rw [hTh]; exact hx) z.toNatClampNeg
    rw [hF, hTh] at this
    exact this
  have hrow : ∀ j : Nat, j < z.toNatClampNeg → F.heap[H.size + 1 + j]? = some (vp_cell (eC E 0) (y.toNatClampNeg, .inl (fun _ => 0))) := fun j hj => by
    have := Jvm.Free.Multi.fill_inner (T.setVm vm₁) (eC E 1) (eC E 0) z.toNatClampNeg y.toNatClampNeg (defaultValue .int) z.toNatClampNeg j hj
    rw [hF, hTh] at this
    rw [this, vp_cell_i]
    exact congrArg some (arrV_new _ _ _)
  rw [mna_outer] at f2
  obtain ⟨h5, hzz, hc, hf⟩ := hW
  have eH : H.size = ad E n := by rw [ad_in h5]; exact hzz
  have hW1 : Wd E (n + 1 + z.toNatClampNeg) (hmna h n z.toNatClampNeg y.toNatClampNeg) F.heap := by
    refine ⟨by omega, by rw [f1]; omega, fun p c1 hp => ?_, fun p g1 g2 => ?_⟩
    · unfold hmna at hp
      split at hp
      · rename_i e1
        cases hp
        subst e1
        refine ⟨h5, by omega, ?_⟩
        show F.heap[ad E p]? = some (vp_cell _ _)
        rw [← eH, f2, vp_cell_q]
        refine congrArg some (congrArg (arrV _ _) (funext fun j => ?_))
        by_cases hj : j < z.toNatClampNeg
        · simp only [hj, if_true, Option.map_some]
          rw [ad_in (by omega), eH, ad_in h5]
          congr 2
          omega
        · simp [hj]
      · split at hp
        · rename_i e1 e2
          cases hp
          refine ⟨by omega, by omega, ?_⟩
          show F.heap[ad E p]? = some (vp_cell _ _)
          have := hrow (p - n - 1) (by omega)
          rw [show ad E p = H.size + 1 + (p - n - 1) by rw [eH, ad_in h5, ad_in (by omega)]; omega]
          exact this
        · obtain ⟨g1, g2, g3⟩ := hc p c1 hp
          exact ⟨g1, by omega, g3.kept (hold _ (cc_at_lt g3))⟩
    · unfold hmna
      split
      · rfl
      · split
        · rfl
        · exact hf p g1 (by omega)
  have hS1 : va_S (eA E) s.heap F.heap locs := ⟨by rw [f1]; exact Nat.le_trans hS.1 (by omega), fun q g1 g2 => (hold q (Nat.lt_of_lt_of_le g1 hS.1)).trans (hS.2.1 q g1 g2), hS.2.2⟩
  obtain ⟨t, a1, b1⟩ := kk F.heap locs ls hW1 hS1 (by rw [f1]; omega) hl F rfl X'
  refine ⟨t, step t ?_, b1⟩
  have e2 : T.heap.size = H.size := by rw [hT]
  rw [e2, eH]
  exact a1
