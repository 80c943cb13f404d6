/-! the law from its entry -/
theorem hasRoom_le {s : State} {pl : Platform} {R R' : Room} (h : s.hasRoom pl R = true) (h1 : R'.frames ≤ R.frames) (h2 : R'.locals ≤ R.locals) (h3 : R'.cells ≤ R.cells) (h4 : R'.slots ≤ R.slots) : s.hasRoom pl R' = true := by
  simp only [State.hasRoom, Bool.and_eq_true, decide_eq_true_eq] at h ⊢
  obtain ⟨⟨⟨⟨a1, b1, b2, b3, b4, b5⟩, c⟩, d⟩, e⟩ := h
  exact ⟨⟨⟨⟨by omega, by omega, by omega, by omega, by omega, b5⟩, by omega⟩, by omega⟩, e⟩
theorem stand_room {p : Program} {l : Launch} {e : Env} {R R' : Room} {s : State} {m : MethodId} {args : Array Value} {below : List Frame} {meth : Method} {c : Code} {T : State} {locs : List Loc} {cells slots : Nat} (X : Stand p l e R s m args below meth c T locs cells slots) (h1 : R'.frames ≤ R.frames) (h2 : R'.locals ≤ R.locals) (h3 : R'.cells ≤ R.cells) (h4 : R'.slots ≤ R.slots) : Stand p l e R' s m args below meth c T locs cells slots :=
  ⟨X.admits, X.cas, X.clock, X.frames, hasRoom_le X.room h1 h2 h3 h4, X.hears, X.method, X.code, X.here, X.tail, X.warmed, X.limits, X.bytes, X.same⟩
theorem same_forget {s t : State} {L : List Loc} {k n k' n' : Nat} (h : s.sameButNew t L k n) (hL : ∀ q ∈ L, s.heap.size ≤ q.base) (hk : k ≤ k') (hn : n ≤ n') : s.sameButNew t [] k' n' :=
  ⟨h.1, h.2.1, Nat.le_trans h.2.2.1 (by omega), h.2.2.2.1, Nat.le_trans h.2.2.2.2.1 hn, fun a c hc => by
    obtain ⟨c', q1, q2, q3, q4⟩ := h.2.2.2.2.2 a c hc
    refine ⟨c', q1, q2, q3, fun i _ => q4 i (fun hm => ?_)⟩
    have w1 : s.heap.size ≤ a := hL _ hm
    have w2 := (Array.getElem?_eq_some_iff.mp hc).1
    exact absurd w2 (Nat.not_lt.mpr w1)⟩
theorem len_small {args : Array Value} {first s : State} {o : Option Outcome} {idx : List Nat} {t : Term} {v : Value} (h : (Term.length t).eval args first o idx s = some v) : ∃ a cell, t.eval args first o idx s = some (.ref a) ∧ s.arrayAt? a = some cell ∧ cell.slots.size < 2147483648 := by
  simp only [Term.eval, Option.bind_eq_bind] at h
  cases ht : t.eval args first o idx s with
  | none => simp [ht] at h
  | some x =>
    cases x <;> simp [ht] at h
    case ref a =>
      obtain ⟨cell, hcell, h⟩ := Option.bind_eq_some_iff.mp h
      by_cases hn : cell.slots.size < 2147483648
      · exact ⟨a, cell, rfl, hcell, hn⟩
      · rw [if_neg hn] at h
        cases h
theorem nest_of {w : Cond} (hq : nestQ w = true) {A : Array Value} {s : State} (h : w.before A s = true) : va_Nw w s := by
  cases w <;> first | (cases hq; done) | exact va_tabs rfl rfl h | exact h
section LOOP
variable {X : CX} {post : Option Value → HP → Prop} {L : Nat}
theorem law_loop (hX : Cx X RL cL_law (some .boolean) 9 352 197 13897 202 post) (hpost : ∀ h, post (some (.int 1)) h) (hLE : eN X.E 4 = L) (hL : L ≤ 2048) : ∀ (z c : Nat) (hh : HP) (B : FV) (W P o : Nat), L - 4 * c < z → 4 * c ≤ L → HB hh 5 B → HR hh 189 B W P o → OKB B (200 * c) → AW X 202 hh 197 13897 18 [some (.ref 4), some (.ref 5), some (.ref 189), some (.int (nI (4 * c)))] [] := by
  intro z
  induction z with
  | zero => intro c hh B W P o h1; omega
  | succ z ih =>
    intro c hh B W P o h1 h2 hb hr hok
    have next : ∀ (hh : HP) (B : FV) (W P o : Nat), HB hh 5 B → HR hh 189 B W P o → OKB B (200 * c + 200) → 4 * c + 4 ≤ L → AW X 202 hh 197 13897 907 [some (.ref 4), some (.ref 5), some (.ref 189), some (.int (nI (4 * c)))] [] := by
      intro hh B W P o hb hr hok h4
      refine aw_iinc hX (nI (4 * (c + 1))) dL_law_907 rfl (nI_add (4 * c) 4) ?_
      refine aw_goto hX 18 dL_law_910 (by decide) ?_
      exact ih (c + 1) hh B W P o (by omega) (by omega) hb hr hok
    have hcmp : iI ((L : Int) - 4) < nI (4 * c) ↔ (L : Int) - 4 < ((4 * c : Nat) : Int) := by
      rw [iI_n]
      exact iI_lt (by omega) (by omega) (by omega) (by omega)
    refine aw_iload_n hX dL_law_18 rfl ?_
    refine aw_aload_n hX dL_law_19 rfl ?_
    refine aw_rolen hX (nI L) (by decide) (by rw [hLE]; rfl) dL_law_20 ?_
    refine aw_iconst hX (4) dL_law_21 (by decide) ?_
    refine aw_isub hX dL_law_22 ?_
    refine AW.top (y := iI ((L : Int) - 4)) (by show nI L - iI 4 = _; rw [iI_n, iI_sub]) ?_
    refine aw_icmp_gt hX 913 dL_law_23 (by decide) (fun c_23 => ?_) (fun c_23 => ?_)
    · refine aw_iconst hX (1) dL_law_913 (by decide) ?_
      exact aw_zret hX rfl (by first | exact Or.inl rfl | exact Or.inr rfl | assumption) rfl rfl rfl dL_law_914 (by exact hpost _)
    · have h4 : 4 * c + 4 ≤ L := by have q : ¬ (L : Int) - 4 < ((4 * c : Nat) : Int) := fun q => c_23 (hcmp.mpr q); omega
      refine aw_aload_n hX dL_law_26 rfl ?_
      refine aw_iload_n hX dL_law_27 rfl ?_
      refine aw_roaldN hX (4 * c) (by decide) rfl (by rw [hLE]; omega) (by rw [hLE]; omega) dL_law_28 ?_
      refine aw_bipush hX (31) dL_law_29 (by decide) ?_
      refine aw_iand hX dL_law_31 ?_
      obtain ⟨j, hj, hje⟩ := pk_andE (eF X.E 4 (4 * c)) (m := 31) 5 (by decide)
      rw [hje]
      rcases (show j = 0 ∨ j = 1 ∨ j = 2 ∨ j = 3 ∨ j = 4 ∨ j = 5 ∨ j = 6 ∨ j = 7 ∨ j = 8 ∨ j = 9 ∨ j = 10 ∨ j = 11 ∨ j = 12 ∨ j = 13 ∨ j = 14 ∨ j = 15 ∨ j = 16 ∨ j = 17 ∨ j = 18 ∨ j = 19 ∨ j = 20 ∨ j = 21 ∨ j = 22 ∨ j = 23 ∨ j = 24 ∨ j = 25 ∨ j = 26 ∨ 26 < j by omega) with q | q | q | q | q | q | q | q | q | q | q | q | q | q | q | q | q | q | q | q | q | q | q | q | q | q | q | q
      all_goals try subst q
      · exact aw_tabIn hX 156 dL_law_32 (by decide) (by decide) rfl (by decide) (law_0 hX hLE hL h4 (by omega) hb hr hok (fun hh B W P o a b d => next hh B W P o a b d h4))
      · exact aw_tabIn hX 179 dL_law_32 (by decide) (by decide) rfl (by decide) (law_1 hX hLE hL h4 (by omega) hb hr hok (fun hh B W P o a b d => next hh B W P o a b d h4))
      · exact aw_tabIn hX 212 dL_law_32 (by decide) (by decide) rfl (by decide) (law_2 hX hLE hL h4 (by omega) hb hr hok (fun hh B W P o a b d => next hh B W P o a b d h4))
      · exact aw_tabIn hX 255 dL_law_32 (by decide) (by decide) rfl (by decide) (law_3 hX hLE hL h4 (by omega) hb hr hok (fun hh B W P o a b d => next hh B W P o a b d h4))
      · exact aw_tabIn hX 288 dL_law_32 (by decide) (by decide) rfl (by decide) (law_4 hX hLE hL h4 (by omega) hb hr hok (fun hh B W P o a b d => next hh B W P o a b d h4))
      · exact aw_tabIn hX 311 dL_law_32 (by decide) (by decide) rfl (by decide) (law_5 hX hLE hL h4 (by omega) hb hr hok (fun hh B W P o a b d => next hh B W P o a b d h4))
      · exact aw_tabIn hX 334 dL_law_32 (by decide) (by decide) rfl (by decide) (law_6 hX hLE hL h4 (by omega) hb hr hok (fun hh B W P o a b d => next hh B W P o a b d h4))
      · exact aw_tabIn hX 347 dL_law_32 (by decide) (by decide) rfl (by decide) (law_7 hX hLE hL h4 (by omega) hb hr hok (fun hh B W P o a b d => next hh B W P o a b d h4))
      · exact aw_tabIn hX 360 dL_law_32 (by decide) (by decide) rfl (by decide) (law_8 hX hLE hL h4 (by omega) hb hr hok (fun hh B W P o a b d => next hh B W P o a b d h4))
      · exact aw_tabIn hX 393 dL_law_32 (by decide) (by decide) rfl (by decide) (law_9 hX hLE hL h4 (by omega) hb hr hok (fun hh B W P o a b d => next hh B W P o a b d h4))
      · exact aw_tabIn hX 406 dL_law_32 (by decide) (by decide) rfl (by decide) (law_10 hX hLE hL h4 (by omega) hb hr hok (fun hh B W P o a b d => next hh B W P o a b d h4))
      · exact aw_tabIn hX 439 dL_law_32 (by decide) (by decide) rfl (by decide) (law_11 hX hLE hL h4 (by omega) hb hr hok (fun hh B W P o a b d => next hh B W P o a b d h4))
      · exact aw_tabIn hX 472 dL_law_32 (by decide) (by decide) rfl (by decide) (law_12 hX hLE hL h4 (by omega) hb hr hok (fun hh B W P o a b d => next hh B W P o a b d h4))
      · exact aw_tabIn hX 495 dL_law_32 (by decide) (by decide) rfl (by decide) (law_13 hX hLE hL h4 (by omega) hb hr hok (fun hh B W P o a b d => next hh B W P o a b d h4))
      · exact aw_tabIn hX 518 dL_law_32 (by decide) (by decide) rfl (by decide) (law_14 hX hLE hL h4 (by omega) hb hr hok (fun hh B W P o a b d => next hh B W P o a b d h4))
      · exact aw_tabIn hX 551 dL_law_32 (by decide) (by decide) rfl (by decide) (law_15 hX hLE hL h4 (by omega) hb hr hok (fun hh B W P o a b d => next hh B W P o a b d h4))
      · exact aw_tabIn hX 584 dL_law_32 (by decide) (by decide) rfl (by decide) (law_16 hX hLE hL h4 (by omega) hb hr hok (fun hh B W P o a b d => next hh B W P o a b d h4))
      · exact aw_tabIn hX 617 dL_law_32 (by decide) (by decide) rfl (by decide) (law_17 hX hLE hL h4 (by omega) hb hr hok (fun hh B W P o a b d => next hh B W P o a b d h4))
      · exact aw_tabIn hX 650 dL_law_32 (by decide) (by decide) rfl (by decide) (law_18 hX hLE hL h4 (by omega) hb hr hok (fun hh B W P o a b d => next hh B W P o a b d h4))
      · exact aw_tabIn hX 673 dL_law_32 (by decide) (by decide) rfl (by decide) (law_19 hX hLE hL h4 (by omega) hb hr hok (fun hh B W P o a b d => next hh B W P o a b d h4))
      · exact aw_tabIn hX 716 dL_law_32 (by decide) (by decide) rfl (by decide) (law_20 hX hLE hL h4 (by omega) hb hr hok (fun hh B W P o a b d => next hh B W P o a b d h4))
      · exact aw_tabIn hX 739 dL_law_32 (by decide) (by decide) rfl (by decide) (law_21 hX hLE hL h4 (by omega) hb hr hok (fun hh B W P o a b d => next hh B W P o a b d h4))
      · exact aw_tabIn hX 762 dL_law_32 (by decide) (by decide) rfl (by decide) (law_22 hX hLE hL h4 (by omega) hb hr hok (fun hh B W P o a b d => next hh B W P o a b d h4))
      · exact aw_tabIn hX 795 dL_law_32 (by decide) (by decide) rfl (by decide) (law_23 hX hLE hL h4 (by omega) hb hr hok (fun hh B W P o a b d => next hh B W P o a b d h4))
      · exact aw_tabIn hX 828 dL_law_32 (by decide) (by decide) rfl (by decide) (law_24 hX hLE hL h4 (by omega) hb hr hok (fun hh B W P o a b d => next hh B W P o a b d h4))
      · exact aw_tabIn hX 861 dL_law_32 (by decide) (by decide) rfl (by decide) (law_25 hX hLE hL h4 (by omega) hb hr hok (fun hh B W P o a b d => next hh B W P o a b d h4))
      · exact aw_tabIn hX 894 dL_law_32 (by decide) (by decide) rfl (by decide) (law_26 hX hLE hL h4 (by omega) hb hr hok (fun hh B W P o a b d => next hh B W P o a b d h4))
      · exact aw_tabOut hX 907 dL_law_32 (Or.inr (by rw [nI_toInt (by omega)]; omega)) (by decide) (next hh B W P o hb hr (hok.mono (by omega)) h4)
theorem okb0 : OKB B0 0 := ⟨fun j hj => (by decide : 0 < 256), Nat.zero_le _, Nat.le_refl _, fun v hv => absurd hv List.not_mem_nil⟩
theorem hr0 {h : HP} {y : Nat} (H : HG h y (upd (upd (upd (fun _ => 0) 0 20) 1 10) 3 100) (fun _ => 0) (fun _ => 0) (fun _ => 0) 0 (fun _ => 0) 0 (fun _ => 0) (fun _ => 0) (fun _ => 0) 0 (fun _ => 0) (fun _ => 0) 0 (fun _ => 0) (fun _ => 0)) : HR h y B0 20 10 0 := by
  obtain ⟨e0, e1, e2, e3, e4, e5, e6, e7, e8, e9, e10, e11, e12⟩ := H
  have up : ∀ k, ¬ k = 0 → ¬ k = 1 → ¬ k = 3 → upd (upd (upd (fun _ => (0 : Int32)) 0 20) 1 10) 3 100 k = 0 := fun k h1 h2 h3 => (pk_un h3).trans ((pk_un h2).trans (pk_un h1))
  refine ⟨_, _, 0, 0, ⟨e0, e1⟩, ⟨⟨_, e6⟩, ⟨_, e7⟩, ⟨_, e8⟩, ⟨_, e9⟩, ⟨_, e10⟩, ⟨_, e11⟩, ⟨_, e12⟩, ⟨_, e3⟩, ⟨_, e4⟩⟩, e2, e5, ⟨⟨⟨rfl, rfl, by decide, by decide⟩, fun k hk => ?_, up 4 (by decide) (by decide) (by decide), ⟨up 5 (by decide) (by decide) (by decide), up 6 (by decide) (by decide) (by decide), up 7 (by decide) (by decide) (by decide), up 8 (by decide) (by decide) (by decide)⟩, fun c hc => ⟨up _ (by omega) (by omega) (by omega), up _ (by omega) (by omega) (by omega), up _ (by omega) (by omega) (by omega), up _ (by omega) (by omega) (by omega)⟩, fun c r hc hr => up _ (by omega) (by omega) (by omega), fun l hl => ⟨up _ (by omega) (by omega) (by omega), fun i hi => absurd hi (Nat.not_lt_zero i)⟩, fun m hm => absurd hm (Nat.not_lt_zero m), fun k hk hT => absurd hT (Nat.not_lt_zero k)⟩, ⟨rfl, by decide, ⟨Nat.zero_le _, fun c hc => Nat.zero_le _, fun m hm => absurd hm (Nat.not_lt_zero m)⟩, ⟨rfl, by decide, by decide⟩, ⟨rfl, by decide⟩, fun c hc => ⟨B7_0, B7_0, B7_0, B7_0⟩⟩, fun i => B7_0, fun c h1 h2 => ⟨rfl, rfl, rfl, rfl⟩⟩, fun i hi => absurd hi (Nat.not_lt_zero i), Nat.zero_le _⟩
  rcases (show k = 0 ∨ k = 1 ∨ k = 2 by omega) with q | q | q <;> subst q
  · rfl
  · exact up 2 (by decide) (by decide) (by decide)
  · rfl
theorem law_entry (hX : Cx X RL cL_law (some .boolean) 9 352 197 13897 202 post) (hpost : ∀ h, post (some (.int 1)) h) (hLE : eN X.E 4 = L) (hL : L ≤ 2048) : AW X 5 (fun _ => none) 0 0 0 [some (.ref 4), none, none, none] [] := by
  refine aw_new hX RL rfl (C := RX9) (T := TX9) (N := 9) (ci := 9) (fs := [.null, .null, .null, .null, .null, .null, .null, .null, .int 0]) rfl in_X9 tyX9 tyX9_ok kc_L_7 ki_X9.1 ki_X9.2 (by decide +kernel) rfl (by first | decide | omega) (by first | decide | omega) dL_law_0 ?_
  refine AW.gen (fun h_1 g_1 => ?_)
  have ep := (congrFun g_1 5).trans (hset_eq _ _ _)
  refine aw_dup hX dL_law_3 rfl ?_
  refine aw_callI hX RL rfl (tX9_init _ _ ep) rfl mf_X9_init mi_X9_init rfl kl_L_9 rfl (by decide) (Nat.le_of_ble_eq_true rfl) dL_law_4 (by first | decide | omega) (fun v_4 h_4 p_4 => ?_)
  obtain ⟨rfl, hb, sm⟩ := p_4
  refine aw_astore_n hX dL_law_7 (Nat.le_of_ble_eq_true rfl) ?_
  refine AW.cast (n' := 189) (k' := 184) (sl' := 6998) (by omega) (by omega) (by omega) ?_
  refine aw_new hX RL rfl (C := RX10) (T := TX10) (N := 16) (ci := 10) (fs := [.null, .null, .null, .null, .int 0, .null, .int 0, .null, .null, .null, .int 0, .null, .null, .int 0, .null, .null]) rfl in_X10 tyX10 tyX10_ok kc_L_10 ki_X10.1 ki_X10.2 (by decide +kernel) rfl (by first | decide | omega) (by first | decide | omega) dL_law_8 ?_
  refine AW.gen (fun h_2 g_2 => ?_)
  have eq := (congrFun g_2 189).trans (hset_eq _ _ _)
  have hb := hb.sm (Sm.of_set g_2) (by omega)
  refine aw_dup hX dL_law_11 rfl ?_
  refine aw_callI hX RL rfl (tX10_init _ _ eq) rfl mf_X10_init mi_X10_init rfl kl_L_12 rfl (by decide) (Nat.le_of_ble_eq_true rfl) dL_law_12 (by first | decide | omega) (fun v_12 h_12 p_12 => ?_)
  obtain ⟨rfl, hg, sm2⟩ := p_12
  have hb := hb.sm sm2 (by omega)
  refine aw_astore_n hX dL_law_15 (Nat.le_of_ble_eq_true rfl) ?_
  refine aw_iconst hX (0) dL_law_16 (by decide) ?_
  refine aw_istore_n hX dL_law_17 (Nat.le_of_ble_eq_true rfl) ?_
  refine AW.cast (n' := 202) (k' := 197) (sl' := 13897) (by omega) (by omega) (by omega) ?_
  exact law_loop hX hpost hLE hL (L + 1) 0 _ B0 20 10 0 (by omega) (by omega) hb (hr0 hg) okb0
end LOOP
/-! THE CLAIM OUT OF ONE WALK OF THE LAW'S BODY. Your part is whole_start (and what it stands on); all else here is the same for every law, but numbers. -/
def R_law : String := "FlipBoardLaw"
def lw_P (b : Addr) (xs : List Int32) (args : Array Value) (s : State) : Prop := args = #[.ref b] ∧ s.IntsAt b xs ∧ xs.length ≤ 2048 ∧ (Jvm.Cond.and given_1 narrow_1).before args s = true
def lw_Q (_ : Array Value) (s : State) (o : Outcome) (t : State) : Prop := o = .returned (some (.int 1)) ∧ Framed s o t [] 600000 7302250
def lw_Z (below : List Frame) (a : Array Value) (s : State) : State → Prop := fun t => ∃ o, t.status = .running ∧ Ended t below o ∧ lw_Q a s o t
/-- the law's own end, with 1 on the stack, nothing written that was there before, its room as the claim has it -/
theorem lw_ret {p : Program} {l : Launch} {e : Env} {s : State} {m : MethodId} {below : List Frame} {meth : Method} {c : Code} {b : Nat} (hx : p.tables.exec = Jvm.exec) (hb : c.code = code) (hr : meth.sig.returnType = ret) (hlocks : meth.locks = false) {pc : Nat} {H : Heap} {ls : Array Slot} (hdg : decode code pc = .ok (.ireturn, 1)) : W p l e room_1 s m #[Value.ref b] below meth c H [] 600000 7302250 (lw_Z below #[Value.ref b] s) (F0 m pc ls [.int 1]) := by
  intro T hT X
  obtain ⟨fs, hret, hrun, hended, hW, hframe⟩ := X.leave (v := some (.int 1)) (hlocks := hlocks) (fun h => by rw [hr] at h; cases h)
  have hmeth' : T.vm.method? m = some meth := X.method'
  refine ⟨T.setFrames fs, ?_, .returned (some (.int 1)), hrun, hended, rfl, ⟨_, rfl⟩, hW, hframe⟩
  jvm_step X.here [X.here.top, hx, hb, hdg, hmeth', hr, ret, narrow_b1]
  (try refine ⟨rfl, ?_⟩); (try refine ⟨rfl, ?_⟩)
  first | (intro acts; rw [hret _ acts rfl rfl rfl]) | rw [hret _ _ rfl rfl rfl]
  exact Steps.refl _
/-- what holds at the law's entry: the machine, the code, the tables' words (any of lw_tbl by 'hts w (by decide +kernel)'), the script of L ints xs at the cell b, what the Statement gives of the start (any of its parts by flat_of_before) -/
def lw_At (p : Program) (s : State) (m : MethodId) (meth : Method) (c : Code) (b L : Nat) (xs : Nat → Int32) : Prop :=
  p.tables.exec = Jvm.exec ∧ c.code = code ∧ meth.sig.returnType = ret ∧ c.maxLocals = 4 ∧ s.vm.findClass R_law = some m.cls ∧ (∀ w ∈ lw_tbl, w.before #[Value.ref b] s = true) ∧ va_X b L xs s s.heap ∧ b < s.heap.size ∧ meth.locks = false ∧ (Jvm.Cond.and given_1 narrow_1).before #[Value.ref b] s = true
theorem known_all {b : Addr} {s : State} (hts : ∀ w ∈ lw_tbl, w.before #[Value.ref b] s = true) : ∃ d : Nat → ClassId × (Nat → Nat), ∀ (k : Nat) (q : vw_C), vwCl[k]? = some q → u_Kn s q.1 q.2.1 q.2.2 (d k).1 (d k).2 := by
  have hall : ∀ k : Nat, ∃ d : ClassId × (Nat → Nat), ∀ q : vw_C, vwCl[k]? = some q → u_Kn s q.1 q.2.1 q.2.2 d.1 d.2 := by
    intro k
    match k with
    | 0 => obtain ⟨c, f, h⟩ := u_known (C := RX0) (T := TX0) (N := 6) (n := 6) hts (fun w hw => tbG_in (in_X0 w hw)) (hts _ (tbG_in ki_X0.1)); exact ⟨(c, f), fun q hq => by cases hq; exact h⟩
    | 1 => obtain ⟨c, f, h⟩ := u_known (C := RX1) (T := TX1) (N := 1) (n := 1) hts (fun w hw => tbG_in (in_X1 w hw)) (hts _ (tbG_in ki_X1.1)); exact ⟨(c, f), fun q hq => by cases hq; exact h⟩
    | 2 => obtain ⟨c, f, h⟩ := u_known (C := RX2) (T := TX2) (N := 3) (n := 3) hts (fun w hw => tbG_in (in_X2 w hw)) (hts _ (tbG_in ki_X2.1)); exact ⟨(c, f), fun q hq => by cases hq; exact h⟩
    | 3 => obtain ⟨c, f, h⟩ := u_known (C := RX3) (T := TX3) (N := 5) (n := 5) hts (fun w hw => tbG_in (in_X3 w hw)) (hts _ (tbG_in ki_X3.1)); exact ⟨(c, f), fun q hq => by cases hq; exact h⟩
    | 4 => obtain ⟨c, f, h⟩ := u_known (C := RX4) (T := TX4) (N := 5) (n := 5) hts (fun w hw => tbG_in (in_X4 w hw)) (hts _ (tbG_in ki_X4.1)); exact ⟨(c, f), fun q hq => by cases hq; exact h⟩
    | 5 => obtain ⟨c, f, h⟩ := u_known (C := RX5) (T := TX5) (N := 2) (n := 2) hts (fun w hw => tbG_in (in_X5 w hw)) (hts _ (tbG_in ki_X5.1)); exact ⟨(c, f), fun q hq => by cases hq; exact h⟩
    | 6 => obtain ⟨c, f, h⟩ := u_known (C := RX6) (T := TX6) (N := 5) (n := 5) hts (fun w hw => tbG_in (in_X6 w hw)) (hts _ (tbG_in ki_X6.1)); exact ⟨(c, f), fun q hq => by cases hq; exact h⟩
    | 7 => obtain ⟨c, f, h⟩ := u_known (C := RX7) (T := TX7) (N := 5) (n := 5) hts (fun w hw => tbG_in (in_X7 w hw)) (hts _ (tbG_in ki_X7.1)); exact ⟨(c, f), fun q hq => by cases hq; exact h⟩
    | 8 => obtain ⟨c, f, h⟩ := u_known (C := RX8) (T := TX8) (N := 4) (n := 4) hts (fun w hw => tbG_in (in_X8 w hw)) (hts _ (tbG_in ki_X8.1)); exact ⟨(c, f), fun q hq => by cases hq; exact h⟩
    | 9 => obtain ⟨c, f, h⟩ := u_known (C := RX9) (T := TX9) (N := 9) (n := 9) hts (fun w hw => tbG_in (in_X9 w hw)) (hts _ (tbG_in ki_X9.1)); exact ⟨(c, f), fun q hq => by cases hq; exact h⟩
    | 10 => obtain ⟨c, f, h⟩ := u_known (C := RX10) (T := TX10) (N := 16) (n := 16) hts (fun w hw => tbG_in (in_X10 w hw)) (hts _ (tbG_in ki_X10.1)); exact ⟨(c, f), fun q hq => by cases hq; exact h⟩
    | k + 11 => exact ⟨(0, fun _ => 0), fun q hq => by simp [vwCl] at hq⟩
  exact Classical.skolem.mp hall
set_option maxHeartbeats 4000000 in
theorem whole_start {p : Program} {e : Env} {s : State} {m : MethodId} {below : List Frame} {meth : Method} {c : Code} (l : Launch) (hflags : l.flags = flags0) {b L : Nat} {xs : Nat → Int32} (hL : L ≤ 2048) (C0 : lw_At p s m meth c b L xs) : W p l e room_1 s m #[Value.ref b] below meth c s.heap [] 0 0 (lw_Z below #[Value.ref b] s) (entryFrame m ([Value.ref b] : List Value).toArray 4) := by
  obtain ⟨hx, hb, hr, hml, hown, hts, hX, hbl, hlocks, hgv⟩ := id C0
  have hg := flat_of_before _ hgv
  have hA : ∀ a : Nat, a < s.heap.size → ¬ (fun q : Nat => s.heap.size ≤ q) a := fun a h => Nat.not_le.mpr h
  have hini : (Cond.initialized "FlipBoard").before #[Value.ref b] s = true := hts _ (List.mem_of_getElem? (i := 49) (by decide +kernel))
  obtain ⟨d, hd⟩ := known_all hts
  obtain ⟨a0, k0, p0, q0, q1, q2⟩ := Cond.arrayClass_spec (hts _ (tbG_in k_arr.1))
  obtain ⟨p1, a1, k1, r0, r1, r2, r3⟩ := Cond.arrayOver_specA (hts _ k_arr.2.1)
  obtain ⟨p2, a2, k2, u0, u1, u2, u3, u4⟩ := Cond.arrayOver_spec (hts _ k_arr.2.2.1)
  obtain ⟨t0, ht0, hT0⟩ := va_Tof (args := #[.ref b]) (s := s) (tm := (.static "FlipBoard" "FIRST_NUMBERS" "[I")) (ty := .int) (N := 3) (f := fun j => .int (([10, 0, 100] : List Int32).getD j 0)) (A := fun q : Nat => s.heap.size ≤ q) (by decide) (hg (.arrayOf (.static "FlipBoard" "FIRST_NUMBERS" "[I") .int) (by decide +kernel)) (va_eqt (hg (.eq (.length (.static "FlipBoard" "FIRST_NUMBERS" "[I")) (.int 3)) (by decide +kernel))) (fun j hj => by
    rcases (show j = 0 ∨ j = 1 ∨ j = 2 by omega) with q | q | q <;> subst q
    · exact va_eqt (hg (.eq (.elem (.static "FlipBoard" "FIRST_NUMBERS" "[I") (.int 0)) (.int 10)) (by decide +kernel))
    · exact va_eqt (hg (.eq (.elem (.static "FlipBoard" "FIRST_NUMBERS" "[I") (.int 1)) (.int 0)) (by decide +kernel))
    · exact va_eqt (hg (.eq (.elem (.static "FlipBoard" "FIRST_NUMBERS" "[I") (.int 2)) (.int 100)) (by decide +kernel))) hA
  have hZ0 := va_Zref (args := #[.ref b]) (s := s) (C := "FlipBoard") (n := "FIRST_NUMBERS") (d := "[I") (t := t0) (A := fun q : Nat => s.heap.size ≤ q) (hts _ (List.mem_of_getElem? (i := 165) (by decide +kernel))) hini ht0 hA
  obtain ⟨t1, ht1, hT1⟩ := va_Tof (args := #[.ref b]) (s := s) (tm := (.static "FlipBoard" "LEAST_NUMBERS" "[I")) (ty := .int) (N := 3) (f := fun j => .int (([2, 0, 1] : List Int32).getD j 0)) (A := fun q : Nat => s.heap.size ≤ q) (by decide) (hg (.arrayOf (.static "FlipBoard" "LEAST_NUMBERS" "[I") .int) (by decide +kernel)) (va_eqt (hg (.eq (.length (.static "FlipBoard" "LEAST_NUMBERS" "[I")) (.int 3)) (by decide +kernel))) (fun j hj => by
    rcases (show j = 0 ∨ j = 1 ∨ j = 2 by omega) with q | q | q <;> subst q
    · exact va_eqt (hg (.eq (.elem (.static "FlipBoard" "LEAST_NUMBERS" "[I") (.int 0)) (.int 2)) (by decide +kernel))
    · exact va_eqt (hg (.eq (.elem (.static "FlipBoard" "LEAST_NUMBERS" "[I") (.int 1)) (.int 0)) (by decide +kernel))
    · exact va_eqt (hg (.eq (.elem (.static "FlipBoard" "LEAST_NUMBERS" "[I") (.int 2)) (.int 1)) (by decide +kernel))) hA
  have hZ1 := va_Zref (args := #[.ref b]) (s := s) (C := "FlipBoard") (n := "LEAST_NUMBERS") (d := "[I") (t := t1) (A := fun q : Nat => s.heap.size ≤ q) (hts _ (List.mem_of_getElem? (i := 383) (by decide +kernel))) hini ht1 hA
  obtain ⟨t2, ht2, hT2⟩ := va_Tof (args := #[.ref b]) (s := s) (tm := (.static "FlipBoard" "MOST_NUMBERS" "[I")) (ty := .int) (N := 3) (f := fun j => .int (([50, 2, 200] : List Int32).getD j 0)) (A := fun q : Nat => s.heap.size ≤ q) (by decide) (hg (.arrayOf (.static "FlipBoard" "MOST_NUMBERS" "[I") .int) (by decide +kernel)) (va_eqt (hg (.eq (.length (.static "FlipBoard" "MOST_NUMBERS" "[I")) (.int 3)) (by decide +kernel))) (fun j hj => by
    rcases (show j = 0 ∨ j = 1 ∨ j = 2 by omega) with q | q | q <;> subst q
    · exact va_eqt (hg (.eq (.elem (.static "FlipBoard" "MOST_NUMBERS" "[I") (.int 0)) (.int 50)) (by decide +kernel))
    · exact va_eqt (hg (.eq (.elem (.static "FlipBoard" "MOST_NUMBERS" "[I") (.int 1)) (.int 2)) (by decide +kernel))
    · exact va_eqt (hg (.eq (.elem (.static "FlipBoard" "MOST_NUMBERS" "[I") (.int 2)) (.int 200)) (by decide +kernel))) hA
  have hZ2 := va_Zref (args := #[.ref b]) (s := s) (C := "FlipBoard") (n := "MOST_NUMBERS") (d := "[I") (t := t2) (A := fun q : Nat => s.heap.size ≤ q) (hts _ (List.mem_of_getElem? (i := 385) (by decide +kernel))) hini ht2 hA
  obtain ⟨t3, ht3, hT3⟩ := va_Tof (args := #[.ref b]) (s := s) (tm := (.static "FlipBoard" "SHIFTS" "[I")) (ty := .int) (N := 5) (f := fun j => .int (([0, -1, 1, -2, 2] : List Int32).getD j 0)) (A := fun q : Nat => s.heap.size ≤ q) (by decide) (hg (.arrayOf (.static "FlipBoard" "SHIFTS" "[I") .int) (by decide +kernel)) (va_eqt (hg (.eq (.length (.static "FlipBoard" "SHIFTS" "[I")) (.int 5)) (by decide +kernel))) (fun j hj => by
    rcases (show j = 0 ∨ j = 1 ∨ j = 2 ∨ j = 3 ∨ j = 4 by omega) with q | q | q | q | q <;> subst q
    · exact va_eqt (hg (.eq (.elem (.static "FlipBoard" "SHIFTS" "[I") (.int 0)) (.int 0)) (by decide +kernel))
    · exact va_eqt (hg (.eq (.elem (.static "FlipBoard" "SHIFTS" "[I") (.int 1)) (.int (-1))) (by decide +kernel))
    · exact va_eqt (hg (.eq (.elem (.static "FlipBoard" "SHIFTS" "[I") (.int 2)) (.int 1)) (by decide +kernel))
    · exact va_eqt (hg (.eq (.elem (.static "FlipBoard" "SHIFTS" "[I") (.int 3)) (.int (-2))) (by decide +kernel))
    · exact va_eqt (hg (.eq (.elem (.static "FlipBoard" "SHIFTS" "[I") (.int 4)) (.int 2)) (by decide +kernel))) hA
  have hZ3 := va_Zref (args := #[.ref b]) (s := s) (C := "FlipBoard") (n := "SHIFTS") (d := "[I") (t := t3) (A := fun q : Nat => s.heap.size ≤ q) (hts _ (List.mem_of_getElem? (i := 513) (by decide +kernel))) hini ht3 hA
  obtain ⟨cell, w1, w2, w3, w4, w5, w6, w7⟩ := id hT0
  obtain ⟨scr, x1, x2, x3, x4, x5⟩ := hX
  have hTs : va_T .int b L (fun j => .int (xs j)) (fun q : Nat => s.heap.size ≤ q) s s.heap := ⟨scr, x1, x2, x3, Nat.le_of_eq x4.symm, congrArg Int32.ofNat x4, x5, hA b hbl⟩
  obtain ⟨E, hE⟩ : ∃ E : EV, E = ((fun k => (d k).1, fun k => (d k).2), (fun k => if k = 0 then a0 else if k = 1 then a1 else a2), s.heap.size, (fun k => if k = 0 then t0 else if k = 1 then t1 else if k = 2 then t2 else if k = 3 then t3 else b), L, xs) := ⟨_, rfl⟩
  have hcl0 : cl0 E s.heap := by
    subst hE
    obtain ⟨z1, cz, hz1, hz2, hz3⟩ := len_small (va_eqt (hg (.eq (.length (.static "FlipBoard" "FIRST_NUMBERS" "[I")) (.int 3)) (by decide +kernel)))
    obtain ⟨y1, y2, y3, y4, e1, e2, e3, e4, e5, e6, -⟩ := Cond.exactly_spec (hg (.exactly (.static "FlipBoard" "FIRST_NUMBERS" "[I") "[I") (by decide +kernel))
    cases ht0.symm.trans hz1
    cases ht0.symm.trans e1
    obtain ⟨hz4, -, -, -⟩ := State.arrayAt?_spec hz2
    cases w1.symm.trans hz4
    cases w1.symm.trans e3
    have hsz : cell.slots.size = 3 := (nI_eq (a := cell.slots.size) (b := 3) (by omega) (by decide)).mp w5
    have hcls : cell.cls = a0 := by
      have e7 : "[" ++ FieldType.int.toString = "[I" := by decide +kernel
      rw [e7] at q0
      rw [e6]
      exact Option.some.inj (e2.symm.trans q0)
    refine ⟨cell, w1, w3, e5, ?_⟩
    have hsl : cell.slots = (arrV a0 3 (fun j => .int (([10, 0, 100] : List Int32).getD j 0))).slots := by
      refine Array.ext_getElem? (fun i => ?_)
      by_cases hi : i < 3
      · rw [w6 i hi, arrV_read _ _ hi]
      · rw [Array.getElem?_eq_none (by omega), Array.getElem?_eq_none (by rw [arrV_size]; omega)]
    rw [hcls, hsl]
    rfl
  have hK : Ks E s := by
    refine ⟨?_, ?_, ?_, hcl0, fun w hw hq => nest_of hq (hts w hw), ?_⟩
    · subst hE
      refine ⟨fun k q hq => hd k q hq, fun k q hq => ?_⟩
      match k, hq with
      | 0, hq => cases hq; exact ⟨fun n z => ⟨fun k h => (by cases h), k0, q1, p0, q2⟩, q0⟩
      | 1, hq => cases hq; exact ⟨fun n z => ⟨fun k h => (by cases h), k1, r1, p1, r2⟩, r3⟩
      | 2, hq => cases hq; exact ⟨fun n z => ⟨fun k h => (by cases h), k2, u2, p2, u3⟩, k2, p2, u2, u3, u0, u4⟩
      | k + 3, hq => simp [tysE] at hq
    · subst hE
      exact ⟨hZ0, hZ1, hZ2, hZ3⟩
    · subst hE
      intro k hk
      rcases (show k = 0 ∨ k = 1 ∨ k = 2 ∨ k = 3 ∨ k = 4 by omega) with q | q | q | q | q <;> subst q
      · exact hT0
      · exact hT1
      · exact hT2
      · exact hT3
      · exact hTs
    · subst hE
      exact Nat.le_refl _
  have hLE : eN E 4 = L := by subst hE; rfl
  have hbE : eT E 4 = b := by subst hE; rfl
  have hsE : eB E = s.heap.size := by subst hE; rfl
  clear hE
  have hW : Wd E 5 (fun _ => none) s.heap := ⟨Nat.le_refl _, by rw [hsE]; rfl, (fun p c hp => by cases hp), fun p h1 h2 => by omega⟩
  have K := law_entry (X := (p, l, e, rmA 9 352 197 13897, s, m, #[Value.ref b], below, meth, c, MQ below (AQ E 202 (fun v _ => v = some (.int 1))) #[Value.ref b] s 197 13897 (eA E), E, 4)) (post := fun v _ => v = some (.int 1)) ⟨hx, hb, hml, hown, fun w hw => hts w (tbG_in hw), hK, hlocks, hr, rfl, rfl⟩ (fun _ => rfl) hLE hL
  have hcv : cv E (.ref 4) = .ref b := by
    show Value.ref (eT E 4) = .ref b
    rw [hbE]
  rw [lg_entry_eq]
  have hsl : lg_sl [Value.ref b] = [Value.ref b].map Slot.val := lg_sl_one _ (fun v hv => by cases List.mem_singleton.mp hv; rfl)
  have hl := lv_entry [Value.ref b] (n := 4) (by rw [hsl]; exact Nat.le_of_ble_eq_true rfl)
  have K2 := K s.heap [] _ hW va_S.rf rfl ⟨hl.1, hl.2.1, rfl, fun i v hi => by
    match i, hi with
    | 0, hi =>
      cases hi
      refine ⟨?_, rfl⟩
      rw [hsl, List.getElem?_toArray, hcv]
      rfl
    | 1, hi => cases hi
    | 2, hi => cases hi
    | 3, hi => cases hi
    | i + 4, hi => simp at hi⟩
  intro T hT X1
  obtain ⟨t, g1, o, g2, g3, ⟨⟨v, h, g4, g5, -⟩, -⟩, Lc, g6, g7⟩ := K2 T hT (stand_room X1 (by decide) (by decide) (by decide) (by decide))
  have g5 : v = some (.int 1) := g5
  subst g5
  have g4 : o = .returned (some (.int 1)) := g4
  subst g4
  exact ⟨t, g1, _, g2, g3, rfl, ⟨_, rfl⟩, g6.2.1, same_forget g6.2.2 (fun q hq => by have := g7 q hq; rw [← hsE]; exact this) (by decide) (by decide)⟩
set_option maxHeartbeats 4000000 in
theorem lw_walk (l : Launch) (hflags : l.flags = flags0) (b : Addr) (xs : List Int32) : MetFree l x (headSpec (Jvm.Cond.code x code maxLocals ret :: tables_1) room_1) (lw_P b xs) (fun _ _ _ _ _ => True) lw_Q := by
  refine MetFree.of_bodyS (code := code) (maxLocals := maxLocals) (ret := ret) (by decide) ?_ ?_
  · intro args s m h hn
    obtain ⟨meth, c, h1, h2, h3, h4, h5, h6, -, -⟩ := Cond.code_spec hn (atoms_spec (ws := Jvm.Cond.code x code maxLocals ret :: tables_1) h _ List.mem_cons_self)
    exact ⟨meth, c, h1, h2, h3, h4, h5, h6⟩
  · intro p e s m args below meth c s₁ B hml0 hP _
    obtain ⟨rfl, hx, hbd, hgv⟩ := hP
    obtain ⟨scr, harrAt, hlist, hof, hsmall⟩ := hx
    obtain ⟨hcb, hkn, -, -⟩ := State.arrayAt?_spec harrAt
    have hown : s.vm.findClass R_law = some m.cls := findClass_of_methodNamed B.named
    have hts0 : ∀ c ∈ (Jvm.Cond.code x code maxLocals ret :: tables_1), c.before #[Value.ref b] s = true := atoms_spec (ws := Jvm.Cond.code x code maxLocals ret :: tables_1) B.pre
    have hts : ∀ w ∈ lw_tbl, w.before #[Value.ref b] s = true := k2_hts_sels lw_privs (fun w hw => hts0 w (List.mem_cons_of_mem _ hw)) lw_privs_ok
    have hml : c.maxLocals = 4 := B.maxLocals_eq (hts0 _ List.mem_cons_self)
    have X₀ : Stand p l e room_1 s m #[Value.ref b] below meth c s₁ [] 0 0 := Stand.of_body B
    have hh0 : s₁.heap = s.heap := by rw [B.state]; rfl
    have hsz : scr.slots.size = xs.length := by rw [← Array.length_toList, hlist, List.length_map]
    have hval : ∀ j : Nat, j < xs.length → scr.slots[j]? = some (.int (xs.getD j 0)) := fun j hj => by
      rw [← Array.getElem?_toList, hlist]
      simp [hj]
    have hbl : b < s.heap.size := (Array.getElem?_eq_some_iff.mp hcb).1
    have hX : va_X b xs.length (fun j => xs.getD j 0) s s.heap := ⟨scr, hcb, hof, hkn, hsz, hval⟩
    have K : W p l e room_1 s m #[Value.ref b] below meth c s₁.heap [] 0 0 (lw_Z below #[Value.ref b] s) (entryFrame m ([Value.ref b] : List Value).toArray 4) := by
      rw [hh0]
      exact whole_start l hflags hbd ⟨B.exec, B.bytes, B.returns, hml, hown, hts, hX, hbl, B.notSynchronized, hgv⟩
    obtain ⟨t, a1, o, b1, b2, b3⟩ := K s₁ rfl X₀
    exact ⟨t, o, a1, b1, b2, b3⟩
theorem lw_pre_spec {args : Array Value} {s : State} (h : (Jvm.Cond.and given_1 narrow_1).before args s = true) (hr : rest_1_c.before args s = true) : ∃ (b : Addr) (xs : List Int32), lw_P b xs args s := by
  have hs := flat_of_before _ h
  have hq := flat_of_before _ hr
  have hc : (Cond.count 1).before args s = true := hs _ (by decide +kernel)
  have harr : (Cond.arrayOf (.arg 0) .int).before args s = true := hs _ (by decide +kernel)
  have hle : (Cond.le (.length (.arg 0)) (.int 2048)).before args s = true := hs _ (by decide +kernel)
  have hlen : (Cond.isInt (.length (.arg 0))).before args s = true := hq _ (by decide +kernel)
  have hall : (Cond.all (.arg 0) (.isInt (.elem (.arg 0) (.index 0)))).before args s = true := hq _ (by decide +kernel)
  obtain ⟨b, xs, hb, hx⟩ := State.ints_of_pre rfl harr hlen hall
  have hsm : xs.length < 2 ^ 31 := hx.choose_spec.2.2.2
  have hev : (Term.length (.arg 0)).eval args s none [] s = some (.int xs.length.toInt32) := hx.length_eval hb
  have hv := Cond.le_ints hev (show (Term.int 2048).eval args s none [] s = some (.int 2048) from rfl)
  have hd : xs.length.toInt32 ≤ 2048 := by
    simpa [Cond.before, Cond.holds, hv] using hle
  have hN : xs.length ≤ 2048 := (Int32.ofNat_le_ofNat hsm (by decide)).mp (show Int32.ofNat xs.length ≤ Int32.ofNat 2048 from hd)
  exact ⟨b, xs, Cond.one_arg hc (show args[0]? = some (.ref b) from hb), hx, hN, h⟩
theorem lw_comes (l : Launch) (hflags : l.flags = flags0) : Comes l x (Jvm.Cond.code x code maxLocals ret :: tables_1) room_1 (fun tb e args s => Calls_1 tb e args s ∧ rest_1 tb e args s ∧ Pre_1 tb e args s)
    (fun _ _ args s o t => lw_Q args s o t) := by
  intro p e ha hc hk s m args below hf hfit hheap happ hpre
  obtain ⟨b, xs, hP⟩ := lw_pre_spec hpre.2.2 hpre.2.1
  obtain ⟨k, o, h1, h2, h3, hQ⟩ := lw_walk l hflags b xs p e ha hc hk s m args below hf ((Spec.applies_iff_loose hf).mp happ).1 hP trivial
  exact ⟨k, o, h1, h2, h3, hQ⟩
theorem lw_frame {s t : State} {o : Outcome} {args : Array Value} (h : Framed s o t [] 600000 7302250) :
    Framed s o t (fieldLocs frame_1_writes args s ++ arrayLocs frame_1_arrays args s ++ staticLocs frame_1_statics s) 600000 7302250 := h
theorem lw_limb (L : Cond) (hL : ∀ (args : Array Value) (s t : State), L.after args s (.returned (some (.int 1))) t = true) :
    ArmFor flags0 classFile x code maxLocals ret World_1 tables_1 room_1 Calls_1 rest_1 Pre_1
      (fun tb e a s o t => postC L tb e a s o t ∧ Framed s o t (fieldLocs frame_1_writes a s ++ arrayLocs frame_1_arrays a s ++ staticLocs frame_1_statics s) 600000 7302250) := by
  intro l hflags _ _ p e ha hc hk s m args below hf hfit hheap happ hpre
  obtain ⟨k, o, h1, h2, h3, rfl, hF⟩ := lw_comes l hflags p e ha hc hk s m args below hf hfit hheap happ hpre
  exact ⟨k, _, h1, h2, h3, hL args s _, lw_frame hF⟩
theorem i_vc : Claimed_1_1 ∧ Claimed_1_2 := ⟨lw_limb limb_1_1 (fun args s t => by simp [limb_1_1, Cond.after, Cond.holds, Cond.value]), lw_limb limb_1_2 (fun args s t => Cond.after_iff.mpr (by
  first | (rw [show limb_1_2 = Cond.eq .result (.int 1) from rfl, Cond.eq_ints (x := 1) (y := 1) rfl rfl]; simp; done) | (simp [limb_1_2, Cond.value, Term.eval]; done)))⟩

