/-! the law from its entry -/
theorem hasRoom_le {s : State} {pl : Platform} {R R' : Room} (h : s.hasRoom pl R = true) (h1 : R'.frames ≤ R.frames) (h2 : R'.locals ≤ R.locals) (h3 : R'.cells ≤ R.cells) (h4 : R'.slots ≤ R.slots) : s.hasRoom pl R' = true := by
  simp only [State.hasRoom, Bool.and_eq_true, decide_eq_true_eq] at h ⊢
  obtain ⟨⟨⟨⟨a1, b1, b2, b3, b4, b5⟩, c⟩, d⟩, e⟩ := h
  exact ⟨⟨⟨⟨by omega, by omega, by omega, by omega, by omega, b5⟩, by omega⟩, by omega⟩, e⟩
theorem stand_room {p : Program} {l : Launch} {e : Env} {R R' : Room} {s : State} {m : MethodId} {args : Array Value} {below : List Frame} {meth : Method} {c : Code} {T : State} {locs : List Loc} {cells slots : Nat} (X : Stand p l e R s m args below meth c T locs cells slots) (h1 : R'.frames ≤ R.frames) (h2 : R'.locals ≤ R.locals) (h3 : R'.cells ≤ R.cells) (h4 : R'.slots ≤ R.slots) : Stand p l e R' s m args below meth c T locs cells slots :=
  ⟨X.admits, X.cas, X.clock, X.frames, hasRoom_le X.room h1 h2 h3 h4, X.hears, X.method, X.code, X.here, X.tail, X.warmed, X.limits, X.bytes, X.same⟩
theorem same_forget {s t : State} {L : List Loc} {k n k' n' : Nat} (h : s.sameButNew t L k n) (hL : ∀ q ∈ L, s.heap.size ≤ q.base) (hk : k ≤ k') (hn : n ≤ n') : s.sameButNew t [] k' n' :=
  ⟨h.1, h.2.1, Nat.le_trans h.2.2.1 (by omega), h.2.2.2.1, Nat.le_trans h.2.2.2.2.1 hn, fun a c hc => by
    obtain ⟨c', q1, q2, q3, q4⟩ := h.2.2.2.2.2 a c hc
    refine ⟨c', q1, q2, q3, fun i _ => q4 i (fun hm => ?_)⟩
    have w1 : s.heap.size ≤ a := hL _ hm
    have w2 := (Array.getElem?_eq_some_iff.mp hc).1
    exact absurd w2 (Nat.not_lt.mpr w1)⟩
theorem len_small {args : Array Value} {first s : State} {o : Option Outcome} {idx : List Nat} {t : Term} {v : Value} (h : (Term.length t).eval args first o idx s = some v) : ∃ a cell, t.eval args first o idx s = some (.ref a) ∧ s.arrayAt? a = some cell ∧ cell.slots.size < 2147483648 := by
  simp only [Term.eval, Option.bind_eq_bind] at h
  cases ht : t.eval args first o idx s with
  | none => simp [ht] at h
  | some x =>
    cases x <;> simp [ht] at h
    case ref a =>
      obtain ⟨cell, hcell, h⟩ := Option.bind_eq_some_iff.mp h
      by_cases hn : cell.slots.size < 2147483648
      · exact ⟨a, cell, rfl, hcell, hn⟩
      · rw [if_neg hn] at h
        cases h
theorem nest_of {w : Cond} (hq : nestQ w = true) {A : Array Value} {s : State} (h : w.before A s = true) : va_Nw w s := by
  cases w <;> first | (cases hq; done) | exact va_tabs rfl rfl h | exact h
def cellF (E : EV) (k : Nat) : Int32 := if k < eN E 4 then eF E 4 k else 40503 * (nI k + 3)
def zF (E : EV) (i : Nat) : Int32 := cellF E (1 + i) ^^^ 7919 * nI i
def sN (E : EV) (i : Nat) : Nat := sumN (fun j => cA (zF E j)) i
theorem sN_s (E : EV) (i : Nat) : sN E (i + 1) = sN E i + cA (zF E i) := rfl
theorem sN_up (E : EV) (i : Nat) : ∀ d, sN E i ≤ sN E (i + d)
  | 0 => Nat.le_refl _
  | d + 1 => Nat.le_trans (sN_up E i d) (by show sN E (i + d) ≤ sN E (i + d) + cA (zF E (i + d)); omega)
theorem sN_mono (E : EV) {i j : Nat} (h : i ≤ j) : sN E i ≤ sN E j := by
  have q := sN_up E i (j - i)
  rw [show i + (j - i) = j by omega] at q
  exact q
theorem cA_le (z : Int32) : cA z ≤ 30 := by
  unfold cA
  split
  · exact Nat.zero_le _
  · exact (sA_in _).2
theorem sN_le (E : EV) (i : Nat) : sN E i ≤ i * 30 := sumN_le (fun j _ => cA_le _)
section LOOP
variable {X : CX} {post : Option Value → HP → Prop} {L : Nat}
theorem tL_cellD (l : Launch) (E : EV) (n : Nat) (h : HP) {k : Nat} (hLE : eN E 4 = L) (hL : L ≤ 260) (hk : k < 2 ^ 31) : ML_cell l E n h [.ref 4, .int (nI k)] (PR (.int (cellF E k)) h) := by
  refine AM.intro mf_L_cell (by simp [Value.category]) (Nat.le_of_ble_eq_true rfl) (fun X hl hE hnm hX => ?_)
  subst hl
  subst hE
  show AW X _ _ 0 0 0 [some (.ref 4), some (.int (nI k))] []
  refine aw_iload_n hX dL_cell_0 rfl ?_
  refine aw_aload_n hX dL_cell_1 rfl ?_
  refine aw_rolen hX (nI L) (by decide) (by rw [hLE]; rfl) dL_cell_2 ?_
  refine aw_icmp_ge hX 12 dL_cell_3 (by decide) (fun c_3 => ?_) (fun c_3 => ?_)
  · have n_3 : L ≤ k := (nI_leI (a := L) (b := k) (by omega) (by omega)).mp c_3
    refine aw_ldc hX kk_L_7 dL_cell_12 ?_
    refine aw_iload_n hX dL_cell_14 rfl ?_
    refine aw_iconst hX (3) dL_cell_15 (by decide) ?_
    refine aw_iadd hX dL_cell_16 ?_
    refine aw_imul hX dL_cell_17 ?_
    exact aw_iret hX rfl rfl rfl rfl dL_cell_18 (by exact ⟨congrArg (fun z => some (Value.int z)) (by rw [cellF]; first | exact (if_pos (by rw [hLE]; omega)).symm | exact (if_neg (by rw [hLE]; omega)).symm), rfl⟩)
  · have n_3 : ¬ L ≤ k := fun q_ => c_3 ((nI_leI (a := L) (b := k) (by omega) (by omega)).mpr q_)
    refine aw_aload_n hX dL_cell_6 rfl ?_
    refine aw_iload_n hX dL_cell_7 rfl ?_
    refine aw_roaldN hX k (by decide) rfl (by rw [hLE]; omega) (by rw [hLE]; omega) dL_cell_8 ?_
    refine aw_goto hX 18 dL_cell_9 (by decide) ?_
    exact aw_iret hX rfl rfl rfl rfl dL_cell_18 (by exact ⟨congrArg (fun z => some (Value.int z)) (by rw [cellF]; first | exact (if_pos (by rw [hLE]; omega)).symm | exact (if_neg (by rw [hLE]; omega)).symm), rfl⟩)
theorem law_loop {tn : Nat} (htn : tn ≤ 69) (hX : Cx X RL cL_law (some .boolean) 8 225 (189 + sN X.E tn) (7191 + 16 * sN X.E tn) (194 + sN X.E tn) post) (hpost : ∀ h, post (some (.int 1)) h) (hLE : eN X.E 4 = L) (hL : L ≤ 260) : ∀ (y i : Nat) (hh : HP) (B : FV) (W P o M : Nat), i ≤ tn → tn - i < y → LW hh B W P o M (30 * i) → AW X (194 + sN X.E i) hh (189 + sN X.E i) (7191 + 16 * sN X.E i) 101 [some (.ref 4), some (.ref 5), some (.ref 189), some (.ref 190), some (.ref 191), some (.ref 192), some (.ref 193), some (.int 1), some (.int (nI tn)), some (.int (nI i))] [] := by
  intro y
  induction y with
  | zero => intro i hh B W P o M h1 h2; omega
  | succ y ih =>
    intro i hh B W P o M h1 h2 hw
    have hm1 : i < tn → sN X.E i + cA (zF X.E i) ≤ sN X.E tn := fun q => sN_mono X.E q
    have hm0 := sN_mono X.E h1
    refine aw_iload hX dL_law_101 rfl ?_
    refine aw_iload hX dL_law_103 rfl ?_
    refine aw_icmp_ge hX 178 dL_law_105 (by decide) (fun c_105 => ?_) (fun c_105 => ?_)
    · have n_105 : tn ≤ i := (nI_leI (a := tn) (b := i) (by omega) (by omega)).mp c_105
      have hit : i = tn := by omega
      subst hit
      obtain ⟨g, b, f, lt, m, H⟩ := hw
      obtain ⟨e, eb, HD, hl, hm, hs, hT1⟩ := id H
      obtain ⟨e0, e1, e2, e3, e4⟩ := id e
      have b0 := eb.1
      have hcol : fColumn B (nI W) 0 = -1001 := if_neg (fun q => Int32.lt_irrefl (show nI W < nI W by have w := q.2.1; rw [HD.1.1.1] at w; exact w))
      have hstr : fStrip B (nI (BS B).2.2.2.2) = -1001 := if_neg (fun q => Int32.lt_irrefl q.2.1)
      have hpow : fPower B 21 = -1001 := if_neg (by decide)
      refine aw_iload hX dL_law_178 rfl ?_
      refine aw_if_eq hX 243 dL_law_180 (by decide) (fun c_180 => ?_) (fun c_180 => ?_)
      · exact absurd c_180 (by decide)
      · refine aw_aload_n hX dL_law_183 rfl ?_
        refine aw_aload_n hX dL_law_184 rfl ?_
        refine aw_aload_n hX dL_law_185 rfl ?_
        refine aw_aload hX dL_law_186 rfl ?_
        refine aw_aload hX dL_law_188 rfl ?_
        refine aw_aload hX dL_law_190 rfl ?_
        refine aw_callSp hX RL rfl (tL_isSo _ _ _ H (by omega)) rfl mf_L_isSo mt_L_isSo kl_L_115 rfl (by decide) (Nat.le_of_ble_eq_true rfl) dL_law_192 (by first | decide | omega) ?_
        refine aw_if_eq hX 243 dL_law_195 (by decide) (fun c_195 => ?_) (fun c_195 => ?_)
        · exact absurd c_195 (by decide)
        · refine aw_aload_n hX dL_law_198 rfl ?_
          refine aw_aload_n hX dL_law_199 rfl ?_
          refine aw_iconst hX (0) dL_law_200 (by decide) ?_
          refine aw_ialdN hX (0) (by assumption) rfl (by decide) (by first | decide | assumption) dL_law_201 ?_
          rw [HD.2.1.1.1]
          refine aw_iconst hX (0) dL_law_202 (by decide) ?_
          refine aw_callVp hX RL rfl (tX9_column _ _ _ eb _ 0) rfl mf_X9_column mi_X9_column ms_X9_column kl_L_89 (by assumption) rfl rfl (by decide) (Nat.le_of_ble_eq_true rfl) dL_law_203 (by first | decide | omega) ?_
          rw [hcol]
          refine aw_sipush hX (-1001) dL_law_206 (by decide) ?_
          refine aw_icmp_ne hX 243 dL_law_209 (by decide) (fun c_209 => ?_) (fun c_209 => ?_)
          · exact absurd rfl c_209
          · refine aw_aload_n hX dL_law_212 rfl ?_
            refine aw_aload hX dL_law_213 rfl ?_
            refine aw_bipush hX (60) dL_law_215 (by decide) ?_
            refine aw_ialdN hX (60) (by assumption) rfl (by decide) (by first | decide | assumption) dL_law_217 ?_
            rw [hm.1.1]
            refine aw_callVp hX RL rfl (tX9_strip _ _ _ eb HD.1.1.2.2.1 _) rfl mf_X9_strip mi_X9_strip ms_X9_strip kl_L_98 (by assumption) rfl rfl (by decide) (Nat.le_of_ble_eq_true rfl) dL_law_218 (by first | decide | omega) ?_
            rw [hstr]
            refine aw_sipush hX (-1001) dL_law_221 (by decide) ?_
            refine aw_icmp_ne hX 243 dL_law_224 (by decide) (fun c_224 => ?_) (fun c_224 => ?_)
            · exact absurd rfl c_224
            · refine aw_aload_n hX dL_law_227 rfl ?_
              refine aw_bipush hX (21) dL_law_228 (by decide) ?_
              refine aw_callVp hX RL rfl (tX9_power _ _ _ eb (by omega) 21) rfl mf_X9_power mi_X9_power ms_X9_power kl_L_103 (by assumption) rfl rfl (by decide) (Nat.le_of_ble_eq_true rfl) dL_law_230 (by first | decide | omega) ?_
              rw [hpow]
              refine aw_sipush hX (-1001) dL_law_233 (by decide) ?_
              refine aw_icmp_ne hX 243 dL_law_236 (by decide) (fun c_236 => ?_) (fun c_236 => ?_)
              · exact absurd rfl c_236
              · refine aw_iconst hX (1) dL_law_239 (by decide) ?_
                refine aw_goto hX 244 dL_law_240 (by decide) ?_
                exact aw_zret hX rfl (by first | exact Or.inl rfl | exact Or.inr rfl | assumption) rfl rfl rfl dL_law_244 (by exact hpost _)
    · have n_105 : ¬ tn ≤ i := fun q_ => c_105 ((nI_leI (a := tn) (b := i) (by omega) (by omega)).mpr q_)
      refine aw_iload hX dL_law_108 rfl ?_
      refine aw_if_eq hX 178 dL_law_110 (by decide) (fun c_110 => ?_) (fun c_110 => ?_)
      · exact absurd c_110 (by decide)
      · have hm2 := hm1 (by omega)
        obtain ⟨g, b, f, lt, m, H⟩ := hw
        refine aw_aload_n hX dL_law_113 rfl ?_
        refine aw_aload_n hX dL_law_114 rfl ?_
        refine aw_aload_n hX dL_law_115 rfl ?_
        refine aw_aload hX dL_law_116 rfl ?_
        refine aw_aload hX dL_law_118 rfl ?_
        refine aw_aload hX dL_law_120 rfl ?_
        refine aw_aload_n hX dL_law_122 rfl ?_
        refine aw_iconst hX (1) dL_law_123 (by decide) ?_
        refine aw_iload hX dL_law_124 rfl ?_
        refine aw_iadd hX dL_law_126 ?_
        refine AW.top (y := nI (1 + i)) (nI_add 1 i) ?_
        refine aw_callSp hX RL rfl (tL_cellD _ _ _ _ hLE hL (k := 1 + i) (by omega)) rfl mf_L_cell mt_L_cell kl_L_107 rfl (by decide) (Nat.le_of_ble_eq_true rfl) dL_law_127 (by first | decide | omega) ?_
        refine aw_sipush hX (7919) dL_law_130 (by decide) ?_
        refine aw_iload hX dL_law_133 rfl ?_
        refine aw_imul hX dL_law_135 ?_
        refine aw_ixor hX dL_law_136 ?_
        refine AW.top (y := zF X.E i) rfl ?_
        refine aw_callS hX RL rfl (tL_acts _ _ _ (by omega) H (by omega) _) rfl mf_L_acts mt_L_acts kl_L_111 rfl (by decide) (Nat.le_of_ble_eq_true rfl) dL_law_137 (by first | decide | omega) (fun v_137 h_137 p_137 => ?_)
        obtain ⟨rfl, B', W', P', o', M', hw'⟩ := p_137
        refine aw_if_eq hX 169 dL_law_140 (by decide) (fun c_140 => ?_) (fun c_140 => ?_)
        · exact absurd c_140 (by decide)
        · refine aw_iload hX dL_law_143 rfl ?_
          refine aw_iconst hX (2) dL_law_145 (by decide) ?_
          refine aw_irem hX dL_law_146 (by decide) ?_
          refine AW.top (y := nI (i % 2)) (pk_rem (a := i) (d := 2) (by omega) (by decide) (by decide)) ?_
          refine aw_if_gt hX 165 dL_law_147 (by decide) (fun c_147 => ?_) (fun c_147 => ?_)
          · have n_147 : 0 < i % 2 := (nI_ltI (a := 0) (b := i % 2) (by omega) (by omega)).mp c_147
            refine aw_iconst hX (1) dL_law_165 (by decide) ?_
            refine aw_goto hX 170 dL_law_166 (by decide) ?_
            refine aw_istore hX dL_law_170 (Nat.le_of_ble_eq_true rfl) ?_
            refine aw_iinc hX (nI (i + 1)) dL_law_172 rfl (nI_1 i) ?_
            refine aw_goto hX 101 dL_law_175 (by decide) ?_
            refine AW.cast (n' := 194 + sN X.E (i + 1)) (k' := 189 + sN X.E (i + 1)) (sl' := 7191 + 16 * sN X.E (i + 1)) (by rw [sN_s]; omega) (by rw [sN_s]; omega) (by rw [sN_s]; omega) ?_
            exact ih (i + 1) _ B' W' P' o' M' (by omega) (by omega) (by rw [show 30 * (i + 1) = 30 * i + 30 by omega]; exact hw')
          · have n_147 : ¬ 0 < i % 2 := fun q_ => c_147 ((nI_ltI (a := 0) (b := i % 2) (by omega) (by omega)).mpr q_)
            obtain ⟨g', b', f', lt', m', H'⟩ := id hw'
            refine aw_aload_n hX dL_law_150 rfl ?_
            refine aw_aload_n hX dL_law_151 rfl ?_
            refine aw_aload_n hX dL_law_152 rfl ?_
            refine aw_aload hX dL_law_153 rfl ?_
            refine aw_aload hX dL_law_155 rfl ?_
            refine aw_aload hX dL_law_157 rfl ?_
            refine aw_callSp hX RL rfl (tL_isSo _ _ _ H' (by omega)) rfl mf_L_isSo mt_L_isSo kl_L_115 rfl (by decide) (Nat.le_of_ble_eq_true rfl) dL_law_159 (by first | decide | omega) ?_
            refine aw_if_eq hX 169 dL_law_162 (by decide) (fun c_162 => ?_) (fun c_162 => ?_)
            · exact absurd c_162 (by decide)
            · refine aw_iconst hX (1) dL_law_165 (by decide) ?_
              refine aw_goto hX 170 dL_law_166 (by decide) ?_
              refine aw_istore hX dL_law_170 (Nat.le_of_ble_eq_true rfl) ?_
              refine aw_iinc hX (nI (i + 1)) dL_law_172 rfl (nI_1 i) ?_
              refine aw_goto hX 101 dL_law_175 (by decide) ?_
              refine AW.cast (n' := 194 + sN X.E (i + 1)) (k' := 189 + sN X.E (i + 1)) (sl' := 7191 + 16 * sN X.E (i + 1)) (by rw [sN_s]; omega) (by rw [sN_s]; omega) (by rw [sN_s]; omega) ?_
              exact ih (i + 1) _ B' W' P' o' M' (by omega) (by omega) (by rw [show 30 * (i + 1) = 30 * i + 30 by omega]; exact hw')
theorem ld0 {W : Nat} (h6 : 6 ≤ W) (h14 : W ≤ 14) : LD (upd (upd (upd (fun _ => 0) 0 (nI W)) 1 10) 3 100) (fun _ => 0) (fun _ => 0) (((nI W, fun _ => 0, fun _ => 0, fun _ => 0, fun _ => 0, fun _ => 0) : DV), ((0, 0, 0, 0, fun _ => 0) : MV), v0.2.2) W 10 0 100 := by
  have up : ∀ k, ¬ k = 0 → ¬ k = 1 → ¬ k = 3 → upd (upd (upd (fun _ => (0 : Int32)) 0 (nI W)) 1 10) 3 100 k = 0 := fun k h1 h2 h3 => (pk_un h3).trans ((pk_un h2).trans (pk_un h1))
  refine ⟨⟨⟨rfl, ⟨h6, by omega⟩, ⟨Nat.zero_le _, fun c hc => Nat.zero_le _, fun m hm => absurd hm (Nat.not_lt_zero m)⟩, ⟨rfl, by decide, by decide⟩, ⟨rfl, by decide⟩, fun c _ => ⟨B7_0, B7_0, B7_0, B7_0⟩⟩, h14, fun c _ _ => ⟨rfl, rfl, rfl, rfl⟩⟩, ⟨⟨?_, ?_, up 2 (by decide) (by decide) (by decide), pk_us⟩, ⟨rfl, by decide, by decide⟩, ⟨up 4 (by decide) (by decide) (by decide), up 5 (by decide) (by decide) (by decide), up 6 (by decide) (by decide) (by decide), up 7 (by decide) (by decide) (by decide)⟩, fun k h1 h2 h3 => absurd (show k ≤ 0 from h3) (by omega)⟩, fun c _ => ⟨rfl, rfl, rfl, rfl⟩, fun c hc => ⟨fun _ => 0, rfl, fun r hr => ⟨rfl, Nat.zero_le _, fun _ => (by decide : 0 < 200)⟩⟩⟩
  · show upd (upd (upd (fun _ => (0 : Int32)) 0 (nI W)) 1 10) 3 100 0 = nI W
    exact (pk_un (by omega)).trans ((pk_un (by omega)).trans pk_us)
  · show upd (upd (upd (fun _ => (0 : Int32)) 0 (nI W)) 1 10) 3 100 1 = nI 10
    exact (pk_un (by omega)).trans pk_us
theorem law_entry {tn : Nat} (htd : 10 + lowF (cellF X.E 0 >>> ((4 : Int32) &&& 31)) 60 = tn) (hX : Cx X RL cL_law (some .boolean) 8 225 (189 + sN X.E tn) (7191 + 16 * sN X.E tn) (194 + sN X.E tn) post) (hpost : ∀ h, post (some (.int 1)) h) (hLE : eN X.E 4 = L) (hL : L ≤ 260) : AW X 5 (fun _ => none) 0 0 0 [some (.ref 4), none, none, none, none, none, none, none, none, none] [] := by
  have hW0 := lowF_lt (cellF X.E 0) (N := 9) (by decide)
  have ht0 := lowF_lt (cellF X.E 0 >>> ((4 : Int32) &&& 31)) (N := 60) (by decide)
  have hbeg : fBegin B0 (nI (6 + lowF (cellF X.E 0) 9)) = (v0.1.1, ((nI (6 + lowF (cellF X.E 0) 9), fun _ => 0, fun _ => 0, fun _ => 0, fun _ => 0, fun _ => 0), (0, 0, 0, 0, fun _ => 0), v0.2.2), keepF [] v0, B0.2.2) := if_pos ⟨(nI_leI (a := 6) (b := 6 + lowF (cellF X.E 0) 9) (by decide) (by omega)).mpr (by omega), (nI_leI (a := 6 + lowF (cellF X.E 0) 9) (b := 40) (by omega) (by decide)).mpr (by omega)⟩
  refine aw_new hX RL rfl (C := RX9) (T := TX9) (N := 9) (ci := 9) (fs := [.null, .null, .null, .null, .null, .null, .null, .null, .int 0]) rfl in_X9 tyX9 tyX9_ok kc_L_39 ki_X9.1 ki_X9.2 (by decide +kernel) rfl (by first | decide | omega) (by first | decide | omega) dL_law_0 ?_
  refine AW.gen (fun h_1 g_1 => ?_)
  have ep := (congrFun g_1 5).trans (hset_eq _ _ _)
  refine aw_dup hX dL_law_3 rfl ?_
  refine aw_callI hX RL rfl (tX9_init _ _ ep) rfl mf_X9_init mi_X9_init rfl kl_L_106 rfl (by decide) (Nat.le_of_ble_eq_true rfl) dL_law_4 (by first | decide | omega) (fun v_4 h_4 p_4 => ?_)
  obtain ⟨rfl, hb, sm⟩ := p_4
  refine aw_astore_n hX dL_law_7 (Nat.le_of_ble_eq_true rfl) ?_
  refine AW.cast (n' := 189) (k' := 184) (sl' := 6998) (by omega) (by omega) (by omega) ?_
  refine aw_bipush hX (28) dL_law_8 (by decide) ?_
  refine aw_newarr hX 28 k_arr.1 (by decide) (by decide) (by decide) (by first | decide | omega) (by first | decide | omega) dL_law_10 ?_
  refine AW.cast (n' := 190) (k' := 185) (sl' := 7026) (by omega) (by omega) (by omega) ?_
  refine aw_astore_n hX dL_law_12 (Nat.le_of_ble_eq_true rfl) ?_
  refine aw_bipush hX (64) dL_law_13 (by decide) ?_
  refine aw_newarr hX 64 k_arr.1 (by decide) (by decide) (by decide) (by first | decide | omega) (by first | decide | omega) dL_law_15 ?_
  refine AW.cast (n' := 191) (k' := 186) (sl' := 7090) (by omega) (by omega) (by omega) ?_
  refine aw_astore_n hX dL_law_17 (Nat.le_of_ble_eq_true rfl) ?_
  refine aw_bipush hX (16) dL_law_18 (by decide) ?_
  refine aw_newlong hX 16 k_arrL (by decide) (by decide) (by decide) (by first | decide | omega) (by first | decide | omega) dL_law_20 ?_
  refine AW.cast (n' := 192) (k' := 187) (sl' := 7106) (by omega) (by omega) (by omega) ?_
  refine aw_astore hX dL_law_22 (Nat.le_of_ble_eq_true rfl) ?_
  refine aw_bipush hX (24) dL_law_24 (by decide) ?_
  refine aw_newarr hX 24 k_arr.1 (by decide) (by decide) (by decide) (by first | decide | omega) (by first | decide | omega) dL_law_26 ?_
  refine AW.cast (n' := 193) (k' := 188) (sl' := 7130) (by omega) (by omega) (by omega) ?_
  refine aw_astore hX dL_law_28 (Nat.le_of_ble_eq_true rfl) ?_
  refine aw_bipush hX (61) dL_law_30 (by decide) ?_
  refine aw_newarr hX 61 k_arr.1 (by decide) (by decide) (by decide) (by first | decide | omega) (by first | decide | omega) dL_law_32 ?_
  refine AW.cast (n' := 194) (k' := 189) (sl' := 7191) (by omega) (by omega) (by omega) ?_
  refine AW.gen (fun h_5 g_5 => ?_)
  have e : HL h_5 (fun _ => 0) (fun _ => 0) (fun _ => 0) (fun _ => 0) (fun _ => 0) := (by subst g_5; exact ⟨(hset_ne _ _ (by decide)).trans ((hset_ne _ _ (by decide)).trans ((hset_ne _ _ (by decide)).trans ((hset_ne _ _ (by decide)).trans (hset_eq _ _ _)))), (hset_ne _ _ (by decide)).trans ((hset_ne _ _ (by decide)).trans ((hset_ne _ _ (by decide)).trans (hset_eq _ _ _))), (hset_ne _ _ (by decide)).trans ((hset_ne _ _ (by decide)).trans (hset_eq _ _ _)), (hset_ne _ _ (by decide)).trans (hset_eq _ _ _), hset_eq _ _ _⟩)
  have hb : HB h_5 5 B0 := (by subst g_5; exact HB.out (HB.out (HB.out (HB.out (HB.out hb _ (by decide)) _ (by decide)) _ (by decide)) _ (by decide)) _ (by decide))
  clear g_5
  obtain ⟨e0, e1, e2, e3, e4⟩ := id e
  refine aw_astore hX dL_law_34 (Nat.le_of_ble_eq_true rfl) ?_
  refine aw_aload_n hX dL_law_36 rfl ?_
  refine aw_iconst hX (0) dL_law_37 (by decide) ?_
  refine aw_bipush hX (6) dL_law_38 (by decide) ?_
  refine aw_aload_n hX dL_law_40 rfl ?_
  refine aw_iconst hX (0) dL_law_41 (by decide) ?_
  refine aw_callSp hX RL rfl (tL_cellD _ _ _ _ hLE hL (k := 0) (by decide)) rfl mf_L_cell mt_L_cell kl_L_107 rfl (by decide) (Nat.le_of_ble_eq_true rfl) dL_law_42 (by first | decide | omega) ?_
  refine aw_bipush hX (9) dL_law_45 (by decide) ?_
  refine aw_callSp hX RL rfl (tL_low _ _ _ _ (cellF X.E 0) (N := 9) (by decide) (by decide)) rfl mf_L_low mt_L_low kl_L_34 rfl (by decide) (Nat.le_of_ble_eq_true rfl) dL_law_47 (by first | decide | omega) ?_
  refine aw_iadd hX dL_law_50 ?_
  refine AW.top (y := nI (6 + lowF (cellF X.E 0) 9)) (nI_add 6 _) ?_
  refine aw_iastN hX (0) (by assumption) rfl (by decide) (by first | decide | assumption) dL_law_51 ?_
  have e := e.ug (upd (fun _ => 0) 0 (nI (6 + lowF (cellF X.E 0) 9)))
  have hb := hb.out (a := 189) (cI 28 (upd (fun _ => 0) 0 (nI (6 + lowF (cellF X.E 0) 9)))) (by decide)
  generalize hset h_5 189 (cI 28 (upd (fun _ => 0) 0 (nI (6 + lowF (cellF X.E 0) 9)))) = hk at e hb ⊢
  obtain ⟨e0, e1, e2, e3, e4⟩ := id e
  refine aw_aload_n hX dL_law_52 rfl ?_
  refine aw_iconst hX (1) dL_law_53 (by decide) ?_
  refine aw_bipush hX (10) dL_law_54 (by decide) ?_
  refine aw_iastN hX (1) (by assumption) rfl (by decide) (by first | decide | assumption) dL_law_56 ?_
  have e := e.ug (upd (upd (fun _ => 0) 0 (nI (6 + lowF (cellF X.E 0) 9))) 1 10)
  have hb := hb.out (a := 189) (cI 28 (upd (upd (fun _ => 0) 0 (nI (6 + lowF (cellF X.E 0) 9))) 1 10)) (by decide)
  generalize hset hk 189 (cI 28 (upd (upd (fun _ => 0) 0 (nI (6 + lowF (cellF X.E 0) 9))) 1 10)) = hk at e hb ⊢
  obtain ⟨e0, e1, e2, e3, e4⟩ := id e
  refine aw_aload_n hX dL_law_57 rfl ?_
  refine aw_iconst hX (3) dL_law_58 (by decide) ?_
  refine aw_bipush hX (100) dL_law_59 (by decide) ?_
  refine aw_iastN hX (3) (by assumption) rfl (by decide) (by first | decide | assumption) dL_law_61 ?_
  have e := e.ug (upd (upd (upd (fun _ => 0) 0 (nI (6 + lowF (cellF X.E 0) 9))) 1 10) 3 100)
  have hb := hb.out (a := 189) (cI 28 (upd (upd (upd (fun _ => 0) 0 (nI (6 + lowF (cellF X.E 0) 9))) 1 10) 3 100)) (by decide)
  generalize hset hk 189 (cI 28 (upd (upd (upd (fun _ => 0) 0 (nI (6 + lowF (cellF X.E 0) 9))) 1 10) 3 100)) = hk at e hb ⊢
  obtain ⟨e0, e1, e2, e3, e4⟩ := id e
  have b0 := hb.1
  refine aw_aload_n hX dL_law_62 rfl ?_
  refine aw_aload_n hX dL_law_63 rfl ?_
  refine aw_iconst hX (0) dL_law_64 (by decide) ?_
  refine aw_ialdN hX (0) (by assumption) rfl (by decide) (by first | decide | assumption) dL_law_65 ?_
  rw [show ((upd (upd (upd (fun _ => 0) 0 (nI (6 + lowF (cellF X.E 0) 9))) 1 10) 3 100) : IF) 0 = nI (6 + lowF (cellF X.E 0) 9) from (pk_un (by omega)).trans ((pk_un (by omega)).trans pk_us)]
  refine aw_callV0 hX RL rfl (tX9_begin _ _ _ hb _) rfl mf_X9_begin mi_X9_begin ms_X9_begin kl_L_38 (by assumption) rfl rfl (by decide) (Nat.le_of_ble_eq_true rfl) dL_law_66 (by first | decide | omega) (fun v_66 h_66 p_66 => ?_)
  obtain ⟨rfl, hb, sm⟩ := pb_at p_66 hbeg
  refine aw_bipush hX (20) dL_law_69 (by decide) ?_
  refine aw_icmp_ne hX 78 dL_law_71 (by decide) (fun c_71 => ?_) (fun c_71 => ?_)
  · exact absurd rfl c_71
  · refine aw_iconst hX (1) dL_law_74 (by decide) ?_
    refine aw_goto hX 79 dL_law_75 (by decide) ?_
    refine aw_istore hX dL_law_79 (Nat.le_of_ble_eq_true rfl) ?_
    refine aw_bipush hX (10) dL_law_81 (by decide) ?_
    refine aw_aload_n hX dL_law_83 rfl ?_
    refine aw_iconst hX (0) dL_law_84 (by decide) ?_
    refine aw_callSp hX RL rfl (tL_cellD _ _ _ _ hLE hL (k := 0) (by decide)) rfl mf_L_cell mt_L_cell kl_L_107 rfl (by decide) (Nat.le_of_ble_eq_true rfl) dL_law_85 (by first | decide | omega) ?_
    refine aw_iconst hX (4) dL_law_88 (by decide) ?_
    refine aw_ishr hX dL_law_89 ?_
    refine aw_bipush hX (60) dL_law_90 (by decide) ?_
    refine aw_callSp hX RL rfl (tL_low _ _ _ _ (cellF X.E 0 >>> ((4 : Int32) &&& 31)) (N := 60) (by decide) (by decide)) rfl mf_L_low mt_L_low kl_L_34 rfl (by decide) (Nat.le_of_ble_eq_true rfl) dL_law_92 (by first | decide | omega) ?_
    refine aw_iadd hX dL_law_95 ?_
    refine AW.top (y := nI tn) (by rw [← htd]; exact nI_add 10 _) ?_
    refine aw_istore hX dL_law_96 (Nat.le_of_ble_eq_true rfl) ?_
    refine aw_iconst hX (0) dL_law_98 (by decide) ?_
    refine aw_istore hX dL_law_99 (Nat.le_of_ble_eq_true rfl) ?_
    refine AW.cast (n' := 194 + sN X.E 0) (k' := 189 + sN X.E 0) (sl' := 7191 + 16 * sN X.E 0) rfl rfl rfl ?_
    exact law_loop (by omega) hX hpost hLE hL (tn + 1) 0 _ _ _ 10 0 100 (Nat.zero_le _) (by omega) ⟨_, _, _, _, _, e.sm sm (by omega), hb, ld0 (by omega) (by omega), fun a ha => ⟨rfl, fun i hi => absurd hi (Nat.not_lt_zero i)⟩, ⟨⟨rfl, Nat.zero_le _⟩, fun k hk => absurd hk (Nat.not_lt_zero k)⟩, fun i => B7_0, Nat.zero_le _⟩
end LOOP
/-! THE CLAIM OUT OF ONE WALK OF THE LAW'S BODY. Your part is whole_start (and what it stands on); all else here is the same for every law, but numbers. -/
def R_law : String := "FlipBoardLaw"
def lw_P (b : Addr) (xs : List Int32) (args : Array Value) (s : State) : Prop := args = #[.ref b] ∧ s.IntsAt b xs ∧ xs.length ≤ 260 ∧ (Jvm.Cond.and given_1 narrow_1).before args s = true
def lw_Q (_ : Array Value) (s : State) (o : Outcome) (t : State) : Prop := o = .returned (some (.int 1)) ∧ Framed s o t [] 600000 7302250
def lw_Z (below : List Frame) (a : Array Value) (s : State) : State → Prop := fun t => ∃ o, t.status = .running ∧ Ended t below o ∧ lw_Q a s o t
/-- the law's own end, with 1 on the stack, nothing written that was there before, its room as the claim has it -/
theorem lw_ret {p : Program} {l : Launch} {e : Env} {s : State} {m : MethodId} {below : List Frame} {meth : Method} {c : Code} {b : Nat} (hx : p.tables.exec = Jvm.exec) (hb : c.code = code) (hr : meth.sig.returnType = ret) (hlocks : meth.locks = false) {pc : Nat} {H : Heap} {ls : Array Slot} (hdg : decode code pc = .ok (.ireturn, 1)) : W p l e room_1 s m #[Value.ref b] below meth c H [] 600000 7302250 (lw_Z below #[Value.ref b] s) (F0 m pc ls [.int 1]) := by
  intro T hT X
  obtain ⟨fs, hret, hrun, hended, hW, hframe⟩ := X.leave (v := some (.int 1)) (hlocks := hlocks) (fun h => by rw [hr] at h; cases h)
  have hmeth' : T.vm.method? m = some meth := X.method'
  refine ⟨T.setFrames fs, ?_, .returned (some (.int 1)), hrun, hended, rfl, ⟨_, rfl⟩, hW, hframe⟩
  jvm_step X.here [X.here.top, hx, hb, hdg, hmeth', hr, ret, narrow_b1]
  (try refine ⟨rfl, ?_⟩); (try refine ⟨rfl, ?_⟩)
  first | (intro acts; rw [hret _ acts rfl rfl rfl]) | rw [hret _ _ rfl rfl rfl]
  exact Steps.refl _
/-- what holds at the law's entry: the machine, the code, the tables' words (any of lw_tbl by 'hts w (by decide +kernel)'), the script of L ints xs at the cell b, what the Statement gives of the start (any of its parts by flat_of_before) -/
def lw_At (p : Program) (s : State) (m : MethodId) (meth : Method) (c : Code) (b L : Nat) (xs : Nat → Int32) : Prop :=
  p.tables.exec = Jvm.exec ∧ c.code = code ∧ meth.sig.returnType = ret ∧ c.maxLocals = 10 ∧ s.vm.findClass R_law = some m.cls ∧ (∀ w ∈ lw_tbl, w.before #[Value.ref b] s = true) ∧ va_X b L xs s s.heap ∧ b < s.heap.size ∧ meth.locks = false ∧ (Jvm.Cond.and given_1 narrow_1).before #[Value.ref b] s = true
theorem known_all {b : Addr} {s : State} (hts : ∀ w ∈ lw_tbl, w.before #[Value.ref b] s = true) : ∃ d : Nat → ClassId × (Nat → Nat), ∀ (k : Nat) (q : vw_C), vwCl[k]? = some q → u_Kn s q.1 q.2.1 q.2.2 (d k).1 (d k).2 := by
  have hall : ∀ k : Nat, ∃ d : ClassId × (Nat → Nat), ∀ q : vw_C, vwCl[k]? = some q → u_Kn s q.1 q.2.1 q.2.2 d.1 d.2 := by
    intro k
    match k with
    | 0 => obtain ⟨c, f, h⟩ := u_known (C := RX0) (T := TX0) (N := 6) (n := 6) hts (fun w hw => tbG_in (in_X0 w hw)) (hts _ (tbG_in ki_X0.1)); exact ⟨(c, f), fun q hq => by cases hq; exact h⟩
    | 1 => obtain ⟨c, f, h⟩ := u_known (C := RX1) (T := TX1) (N := 1) (n := 1) hts (fun w hw => tbG_in (in_X1 w hw)) (hts _ (tbG_in ki_X1.1)); exact ⟨(c, f), fun q hq => by cases hq; exact h⟩
    | 2 => obtain ⟨c, f, h⟩ := u_known (C := RX2) (T := TX2) (N := 3) (n := 3) hts (fun w hw => tbG_in (in_X2 w hw)) (hts _ (tbG_in ki_X2.1)); exact ⟨(c, f), fun q hq => by cases hq; exact h⟩
    | 3 => obtain ⟨c, f, h⟩ := u_known (C := RX3) (T := TX3) (N := 5) (n := 5) hts (fun w hw => tbG_in (in_X3 w hw)) (hts _ (tbG_in ki_X3.1)); exact ⟨(c, f), fun q hq => by cases hq; exact h⟩
    | 4 => obtain ⟨c, f, h⟩ := u_known (C := RX4) (T := TX4) (N := 5) (n := 5) hts (fun w hw => tbG_in (in_X4 w hw)) (hts _ (tbG_in ki_X4.1)); exact ⟨(c, f), fun q hq => by cases hq; exact h⟩
    | 5 => obtain ⟨c, f, h⟩ := u_known (C := RX5) (T := TX5) (N := 2) (n := 2) hts (fun w hw => tbG_in (in_X5 w hw)) (hts _ (tbG_in ki_X5.1)); exact ⟨(c, f), fun q hq => by cases hq; exact h⟩
    | 6 => obtain ⟨c, f, h⟩ := u_known (C := RX6) (T := TX6) (N := 5) (n := 5) hts (fun w hw => tbG_in (in_X6 w hw)) (hts _ (tbG_in ki_X6.1)); exact ⟨(c, f), fun q hq => by cases hq; exact h⟩
    | 7 => obtain ⟨c, f, h⟩ := u_known (C := RX7) (T := TX7) (N := 5) (n := 5) hts (fun w hw => tbG_in (in_X7 w hw)) (hts _ (tbG_in ki_X7.1)); exact ⟨(c, f), fun q hq => by cases hq; exact h⟩
    | 8 => obtain ⟨c, f, h⟩ := u_known (C := RX8) (T := TX8) (N := 4) (n := 4) hts (fun w hw => tbG_in (in_X8 w hw)) (hts _ (tbG_in ki_X8.1)); exact ⟨(c, f), fun q hq => by cases hq; exact h⟩
    | 9 => obtain ⟨c, f, h⟩ := u_known (C := RX9) (T := TX9) (N := 9) (n := 9) hts (fun w hw => tbG_in (in_X9 w hw)) (hts _ (tbG_in ki_X9.1)); exact ⟨(c, f), fun q hq => by cases hq; exact h⟩
    | k + 10 => exact ⟨(0, fun _ => 0), fun q hq => by simp [vwCl] at hq⟩
  exact Classical.skolem.mp hall
set_option maxHeartbeats 4000000 in
theorem whole_start {p : Program} {e : Env} {s : State} {m : MethodId} {below : List Frame} {meth : Method} {c : Code} (l : Launch) (hflags : l.flags = flags0) {b L : Nat} {xs : Nat → Int32} (hL : L ≤ 260) (C0 : lw_At p s m meth c b L xs) : W p l e room_1 s m #[Value.ref b] below meth c s.heap [] 0 0 (lw_Z below #[Value.ref b] s) (entryFrame m ([Value.ref b] : List Value).toArray 10) := by
  obtain ⟨hx, hb, hr, hml, hown, hts, hX, hbl, hlocks, hgv⟩ := id C0
  have hg := flat_of_before _ hgv
  have hA : ∀ a : Nat, a < s.heap.size → ¬ (fun q : Nat => s.heap.size ≤ q) a := fun a h => Nat.not_le.mpr h
  have hini : (Cond.initialized "FlipBoard").before #[Value.ref b] s = true := hts _ (List.mem_of_getElem? (i := 5) (by decide +kernel))
  obtain ⟨d, hd⟩ := known_all hts
  obtain ⟨a0, k0, p0, q0, q1, q2⟩ := Cond.arrayClass_spec (hts _ (tbG_in k_arr.1))
  obtain ⟨p1, a1, k1, r0, r1, r2, r3⟩ := Cond.arrayOver_specA (hts _ k_arr.2.1)
  obtain ⟨p2, a2, k2, u0, u1, u2, u3, u4⟩ := Cond.arrayOver_spec (hts _ k_arr.2.2.1)
  obtain ⟨a3, k3, p3, y0, y1, y2⟩ := Cond.arrayClass_spec (hts _ (tbG_in k_arrL))
  obtain ⟨t0, ht0, hT0⟩ := va_Tof (args := #[.ref b]) (s := s) (tm := (.static "FlipBoard" "FIRST_NUMBERS" "[I")) (ty := .int) (N := 3) (f := fun j => .int (([10, 0, 100] : List Int32).getD j 0)) (A := fun q : Nat => s.heap.size ≤ q) (by decide) (hg (.arrayOf (.static "FlipBoard" "FIRST_NUMBERS" "[I") .int) (by decide +kernel)) (va_eqt (hg (.eq (.length (.static "FlipBoard" "FIRST_NUMBERS" "[I")) (.int 3)) (by decide +kernel))) (fun j hj => by
    rcases (show j = 0 ∨ j = 1 ∨ j = 2 by omega) with q | q | q <;> subst q
    · exact va_eqt (hg (.eq (.elem (.static "FlipBoard" "FIRST_NUMBERS" "[I") (.int 0)) (.int 10)) (by decide +kernel))
    · exact va_eqt (hg (.eq (.elem (.static "FlipBoard" "FIRST_NUMBERS" "[I") (.int 1)) (.int 0)) (by decide +kernel))
    · exact va_eqt (hg (.eq (.elem (.static "FlipBoard" "FIRST_NUMBERS" "[I") (.int 2)) (.int 100)) (by decide +kernel))) hA
  have hZ0 := va_Zref (args := #[.ref b]) (s := s) (C := "FlipBoard") (n := "FIRST_NUMBERS") (d := "[I") (t := t0) (A := fun q : Nat => s.heap.size ≤ q) (hts _ (List.mem_of_getElem? (i := 118) (by decide +kernel))) hini ht0 hA
  obtain ⟨t1, ht1, hT1⟩ := va_Tof (args := #[.ref b]) (s := s) (tm := (.static "FlipBoard" "LEAST_NUMBERS" "[I")) (ty := .int) (N := 3) (f := fun j => .int (([2, 0, 1] : List Int32).getD j 0)) (A := fun q : Nat => s.heap.size ≤ q) (by decide) (hg (.arrayOf (.static "FlipBoard" "LEAST_NUMBERS" "[I") .int) (by decide +kernel)) (va_eqt (hg (.eq (.length (.static "FlipBoard" "LEAST_NUMBERS" "[I")) (.int 3)) (by decide +kernel))) (fun j hj => by
    rcases (show j = 0 ∨ j = 1 ∨ j = 2 by omega) with q | q | q <;> subst q
    · exact va_eqt (hg (.eq (.elem (.static "FlipBoard" "LEAST_NUMBERS" "[I") (.int 0)) (.int 2)) (by decide +kernel))
    · exact va_eqt (hg (.eq (.elem (.static "FlipBoard" "LEAST_NUMBERS" "[I") (.int 1)) (.int 0)) (by decide +kernel))
    · exact va_eqt (hg (.eq (.elem (.static "FlipBoard" "LEAST_NUMBERS" "[I") (.int 2)) (.int 1)) (by decide +kernel))) hA
  have hZ1 := va_Zref (args := #[.ref b]) (s := s) (C := "FlipBoard") (n := "LEAST_NUMBERS") (d := "[I") (t := t1) (A := fun q : Nat => s.heap.size ≤ q) (hts _ (List.mem_of_getElem? (i := 393) (by decide +kernel))) hini ht1 hA
  obtain ⟨t2, ht2, hT2⟩ := va_Tof (args := #[.ref b]) (s := s) (tm := (.static "FlipBoard" "MOST_NUMBERS" "[I")) (ty := .int) (N := 3) (f := fun j => .int (([50, 2, 200] : List Int32).getD j 0)) (A := fun q : Nat => s.heap.size ≤ q) (by decide) (hg (.arrayOf (.static "FlipBoard" "MOST_NUMBERS" "[I") .int) (by decide +kernel)) (va_eqt (hg (.eq (.length (.static "FlipBoard" "MOST_NUMBERS" "[I")) (.int 3)) (by decide +kernel))) (fun j hj => by
    rcases (show j = 0 ∨ j = 1 ∨ j = 2 by omega) with q | q | q <;> subst q
    · exact va_eqt (hg (.eq (.elem (.static "FlipBoard" "MOST_NUMBERS" "[I") (.int 0)) (.int 50)) (by decide +kernel))
    · exact va_eqt (hg (.eq (.elem (.static "FlipBoard" "MOST_NUMBERS" "[I") (.int 1)) (.int 2)) (by decide +kernel))
    · exact va_eqt (hg (.eq (.elem (.static "FlipBoard" "MOST_NUMBERS" "[I") (.int 2)) (.int 200)) (by decide +kernel))) hA
  have hZ2 := va_Zref (args := #[.ref b]) (s := s) (C := "FlipBoard") (n := "MOST_NUMBERS") (d := "[I") (t := t2) (A := fun q : Nat => s.heap.size ≤ q) (hts _ (List.mem_of_getElem? (i := 395) (by decide +kernel))) hini ht2 hA
  obtain ⟨t3, ht3, hT3⟩ := va_Tof (args := #[.ref b]) (s := s) (tm := (.static "FlipBoard" "SHIFTS" "[I")) (ty := .int) (N := 5) (f := fun j => .int (([0, -1, 1, -2, 2] : List Int32).getD j 0)) (A := fun q : Nat => s.heap.size ≤ q) (by decide) (hg (.arrayOf (.static "FlipBoard" "SHIFTS" "[I") .int) (by decide +kernel)) (va_eqt (hg (.eq (.length (.static "FlipBoard" "SHIFTS" "[I")) (.int 5)) (by decide +kernel))) (fun j hj => by
    rcases (show j = 0 ∨ j = 1 ∨ j = 2 ∨ j = 3 ∨ j = 4 by omega) with q | q | q | q | q <;> subst q
    · exact va_eqt (hg (.eq (.elem (.static "FlipBoard" "SHIFTS" "[I") (.int 0)) (.int 0)) (by decide +kernel))
    · exact va_eqt (hg (.eq (.elem (.static "FlipBoard" "SHIFTS" "[I") (.int 1)) (.int (-1))) (by decide +kernel))
    · exact va_eqt (hg (.eq (.elem (.static "FlipBoard" "SHIFTS" "[I") (.int 2)) (.int 1)) (by decide +kernel))
    · exact va_eqt (hg (.eq (.elem (.static "FlipBoard" "SHIFTS" "[I") (.int 3)) (.int (-2))) (by decide +kernel))
    · exact va_eqt (hg (.eq (.elem (.static "FlipBoard" "SHIFTS" "[I") (.int 4)) (.int 2)) (by decide +kernel))) hA
  have hZ3 := va_Zref (args := #[.ref b]) (s := s) (C := "FlipBoard") (n := "SHIFTS") (d := "[I") (t := t3) (A := fun q : Nat => s.heap.size ≤ q) (hts _ (List.mem_of_getElem? (i := 443) (by decide +kernel))) hini ht3 hA
  obtain ⟨cell, w1, w2, w3, w4, w5, w6, w7⟩ := id hT0
  obtain ⟨scr, x1, x2, x3, x4, x5⟩ := hX
  have hTs : va_T .int b L (fun j => .int (xs j)) (fun q : Nat => s.heap.size ≤ q) s s.heap := ⟨scr, x1, x2, x3, Nat.le_of_eq x4.symm, congrArg Int32.ofNat x4, x5, hA b hbl⟩
  obtain ⟨E, hE⟩ : ∃ E : EV, E = ((fun k => (d k).1, fun k => (d k).2), (fun k => if k = 0 then a0 else if k = 1 then a1 else if k = 2 then a2 else a3), s.heap.size, (fun k => if k = 0 then t0 else if k = 1 then t1 else if k = 2 then t2 else if k = 3 then t3 else b), L, xs) := ⟨_, rfl⟩
  have hcl0 : cl0 E s.heap := by
    subst hE
    obtain ⟨z1, cz, hz1, hz2, hz3⟩ := len_small (va_eqt (hg (.eq (.length (.static "FlipBoard" "FIRST_NUMBERS" "[I")) (.int 3)) (by decide +kernel)))
    obtain ⟨y1, y2, y3, y4, e1, e2, e3, e4, e5, e6, -⟩ := Cond.exactly_spec (hg (.exactly (.static "FlipBoard" "FIRST_NUMBERS" "[I") "[I") (by decide +kernel))
    cases ht0.symm.trans hz1
    cases ht0.symm.trans e1
    obtain ⟨hz4, -, -, -⟩ := State.arrayAt?_spec hz2
    cases w1.symm.trans hz4
    cases w1.symm.trans e3
    have hsz : cell.slots.size = 3 := (nI_eq (a := cell.slots.size) (b := 3) (by omega) (by decide)).mp w5
    have hcls : cell.cls = a0 := by
      have e7 : "[" ++ FieldType.int.toString = "[I" := by decide +kernel
      rw [e7] at q0
      rw [e6]
      exact Option.some.inj (e2.symm.trans q0)
    refine ⟨cell, w1, w3, e5, ?_⟩
    have hsl : cell.slots = (arrV a0 3 (fun j => .int (([10, 0, 100] : List Int32).getD j 0))).slots := by
      refine Array.ext_getElem? (fun i => ?_)
      by_cases hi : i < 3
      · rw [w6 i hi, arrV_read _ _ hi]
      · rw [Array.getElem?_eq_none (by omega), Array.getElem?_eq_none (by rw [arrV_size]; omega)]
    rw [hcls, hsl]
    rfl
  have hK : Ks E s := by
    refine ⟨?_, ?_, ?_, hcl0, fun w hw hq => nest_of hq (hts w hw), ?_⟩
    · subst hE
      refine ⟨fun k q hq => hd k q hq, fun k q hq => ?_⟩
      match k, hq with
      | 0, hq => cases hq; exact ⟨fun n z => ⟨fun k h => (by cases h), k0, q1, p0, q2⟩, q0⟩
      | 1, hq => cases hq; exact ⟨fun n z => ⟨fun k h => (by cases h), k1, r1, p1, r2⟩, r3⟩
      | 2, hq => cases hq; exact ⟨fun n z => ⟨fun k h => (by cases h), k2, u2, p2, u3⟩, k2, p2, u2, u3, u0, u4⟩
      | 3, hq => cases hq; exact ⟨fun n z => ⟨fun k h => (by cases h), k3, y1, p3, y2⟩, y0⟩
      | k + 4, hq => simp [tysE] at hq
    · subst hE
      exact ⟨hZ0, hZ1, hZ2, hZ3⟩
    · subst hE
      intro k hk
      rcases (show k = 0 ∨ k = 1 ∨ k = 2 ∨ k = 3 ∨ k = 4 by omega) with q | q | q | q | q <;> subst q
      · exact hT0
      · exact hT1
      · exact hT2
      · exact hT3
      · exact hTs
    · subst hE
      exact Nat.le_refl _
  have hLE : eN E 4 = L := by subst hE; rfl
  have hbE : eT E 4 = b := by subst hE; rfl
  have hsE : eB E = s.heap.size := by subst hE; rfl
  clear hE
  have hW : Wd E 5 (fun _ => none) s.heap := ⟨Nat.le_refl _, by rw [hsE]; rfl, (fun p c hp => by cases hp), fun p h1 h2 => by omega⟩
  obtain ⟨tn, htd⟩ : ∃ tn, 10 + lowF (cellF E 0 >>> ((4 : Int32) &&& 31)) 60 = tn := ⟨_, rfl⟩
  have ht0 := lowF_lt (cellF E 0 >>> ((4 : Int32) &&& 31)) (N := 60) (by decide)
  have hsum := sN_le E tn
  have htn : tn ≤ 69 := by omega
  have K := law_entry (X := (p, l, e, rmA 8 225 (189 + sN E tn) (7191 + 16 * sN E tn), s, m, #[Value.ref b], below, meth, c, MQ below (AQ E (194 + sN E tn) (fun v _ => v = some (.int 1))) #[Value.ref b] s (189 + sN E tn) (7191 + 16 * sN E tn) (eA E), E, 10)) (post := fun v _ => v = some (.int 1)) htd ⟨hx, hb, hml, hown, fun w hw => hts w (tbG_in hw), hK, hlocks, hr, rfl, rfl⟩ (fun _ => rfl) hLE hL
  have hcv : cv E (.ref 4) = .ref b := by
    show Value.ref (eT E 4) = .ref b
    rw [hbE]
  rw [lg_entry_eq]
  have hsl : lg_sl [Value.ref b] = [Value.ref b].map Slot.val := lg_sl_one _ (fun v hv => by cases List.mem_singleton.mp hv; rfl)
  have hl := lv_entry [Value.ref b] (n := 10) (by rw [hsl]; exact Nat.le_of_ble_eq_true rfl)
  have K2 := K s.heap [] _ hW va_S.rf rfl ⟨hl.1, hl.2.1, rfl, fun i v hi => by
    match i, hi with
    | 0, hi =>
      cases hi
      refine ⟨?_, rfl⟩
      rw [hsl, List.getElem?_toArray, hcv]
      rfl
    | 1, hi => cases hi
    | 2, hi => cases hi
    | 3, hi => cases hi
    | 4, hi => cases hi
    | 5, hi => cases hi
    | 6, hi => cases hi
    | 7, hi => cases hi
    | 8, hi => cases hi
    | 9, hi => cases hi
    | i + 10, hi => simp at hi⟩
  intro T hT X1
  obtain ⟨t, g1, o, g2, g3, ⟨⟨v, h, g4, g5, -⟩, -⟩, Lc, g6, g7⟩ := K2 T hT (stand_room X1 (by show 8 ≤ 10; decide) (by show 225 ≤ 442; decide) (by show 189 + sN E tn ≤ 600000; omega) (by show 7191 + 16 * sN E tn ≤ 7302250; omega))
  have g5 : v = some (.int 1) := g5
  subst g5
  have g4 : o = .returned (some (.int 1)) := g4
  subst g4
  exact ⟨t, g1, _, g2, g3, rfl, ⟨_, rfl⟩, g6.2.1, same_forget g6.2.2 (fun q hq => by have := g7 q hq; rw [← hsE]; exact this) (by omega) (by omega)⟩
set_option maxHeartbeats 4000000 in
theorem lw_walk (l : Launch) (hflags : l.flags = flags0) (b : Addr) (xs : List Int32) : MetFree l x (headSpec (Jvm.Cond.code x code maxLocals ret :: tables_1) room_1) (lw_P b xs) (fun _ _ _ _ _ => True) lw_Q := by
  refine MetFree.of_bodyS (code := code) (maxLocals := maxLocals) (ret := ret) (by decide) ?_ ?_
  · intro args s m h hn
    obtain ⟨meth, c, h1, h2, h3, h4, h5, h6, -, -⟩ := Cond.code_spec hn (atoms_spec (ws := Jvm.Cond.code x code maxLocals ret :: tables_1) h _ List.mem_cons_self)
    exact ⟨meth, c, h1, h2, h3, h4, h5, h6⟩
  · intro p e s m args below meth c s₁ B hml0 hP _
    obtain ⟨rfl, hx, hbd, hgv⟩ := hP
    obtain ⟨scr, harrAt, hlist, hof, hsmall⟩ := hx
    obtain ⟨hcb, hkn, -, -⟩ := State.arrayAt?_spec harrAt
    have hown : s.vm.findClass R_law = some m.cls := findClass_of_methodNamed B.named
    have hts0 : ∀ c ∈ (Jvm.Cond.code x code maxLocals ret :: tables_1), c.before #[Value.ref b] s = true := atoms_spec (ws := Jvm.Cond.code x code maxLocals ret :: tables_1) B.pre
    have hts : ∀ w ∈ lw_tbl, w.before #[Value.ref b] s = true := k2_hts_sels lw_privs (fun w hw => hts0 w (List.mem_cons_of_mem _ hw)) lw_privs_ok
    have hml : c.maxLocals = 10 := B.maxLocals_eq (hts0 _ List.mem_cons_self)
    have X₀ : Stand p l e room_1 s m #[Value.ref b] below meth c s₁ [] 0 0 := Stand.of_body B
    have hh0 : s₁.heap = s.heap := by rw [B.state]; rfl
    have hsz : scr.slots.size = xs.length := by rw [← Array.length_toList, hlist, List.length_map]
    have hval : ∀ j : Nat, j < xs.length → scr.slots[j]? = some (.int (xs.getD j 0)) := fun j hj => by
      rw [← Array.getElem?_toList, hlist]
      simp [hj]
    have hbl : b < s.heap.size := (Array.getElem?_eq_some_iff.mp hcb).1
    have hX : va_X b xs.length (fun j => xs.getD j 0) s s.heap := ⟨scr, hcb, hof, hkn, hsz, hval⟩
    have K : W p l e room_1 s m #[Value.ref b] below meth c s₁.heap [] 0 0 (lw_Z below #[Value.ref b] s) (entryFrame m ([Value.ref b] : List Value).toArray 10) := by
      rw [hh0]
      exact whole_start l hflags hbd ⟨B.exec, B.bytes, B.returns, hml, hown, hts, hX, hbl, B.notSynchronized, hgv⟩
    obtain ⟨t, a1, o, b1, b2, b3⟩ := K s₁ rfl X₀
    exact ⟨t, o, a1, b1, b2, b3⟩
theorem lw_pre_spec {args : Array Value} {s : State} (h : (Jvm.Cond.and given_1 narrow_1).before args s = true) (hr : rest_1_c.before args s = true) : ∃ (b : Addr) (xs : List Int32), lw_P b xs args s := by
  have hs := flat_of_before _ h
  have hq := flat_of_before _ hr
  have hc : (Cond.count 1).before args s = true := hs _ (by decide +kernel)
  have harr : (Cond.arrayOf (.arg 0) .int).before args s = true := hs _ (by decide +kernel)
  have hle : (Cond.le (.length (.arg 0)) (.int 260)).before args s = true := hs _ (by decide +kernel)
  have hlen : (Cond.isInt (.length (.arg 0))).before args s = true := hq _ (by decide +kernel)
  have hall : (Cond.all (.arg 0) (.isInt (.elem (.arg 0) (.index 0)))).before args s = true := hq _ (by decide +kernel)
  obtain ⟨b, xs, hb, hx⟩ := State.ints_of_pre rfl harr hlen hall
  have hsm : xs.length < 2 ^ 31 := hx.choose_spec.2.2.2
  have hev : (Term.length (.arg 0)).eval args s none [] s = some (.int xs.length.toInt32) := hx.length_eval hb
  have hv := Cond.le_ints hev (show (Term.int 260).eval args s none [] s = some (.int 260) from rfl)
  have hd : xs.length.toInt32 ≤ 260 := by
    simpa [Cond.before, Cond.holds, hv] using hle
  have hN : xs.length ≤ 260 := (Int32.ofNat_le_ofNat hsm (by decide)).mp (show Int32.ofNat xs.length ≤ Int32.ofNat 260 from hd)
  exact ⟨b, xs, Cond.one_arg hc (show args[0]? = some (.ref b) from hb), hx, hN, h⟩
theorem lw_comes (l : Launch) (hflags : l.flags = flags0) : Comes l x (Jvm.Cond.code x code maxLocals ret :: tables_1) room_1 (fun tb e args s => Calls_1 tb e args s ∧ rest_1 tb e args s ∧ Pre_1 tb e args s)
    (fun _ _ args s o t => lw_Q args s o t) := by
  intro p e ha hc hk s m args below hf hfit hheap happ hpre
  obtain ⟨b, xs, hP⟩ := lw_pre_spec hpre.2.2 hpre.2.1
  obtain ⟨k, o, h1, h2, h3, hQ⟩ := lw_walk l hflags b xs p e ha hc hk s m args below hf ((Spec.applies_iff_loose hf).mp happ).1 hP trivial
  exact ⟨k, o, h1, h2, h3, hQ⟩
theorem lw_frame {s t : State} {o : Outcome} {args : Array Value} (h : Framed s o t [] 600000 7302250) :
    Framed s o t (fieldLocs frame_1_writes args s ++ arrayLocs frame_1_arrays args s ++ staticLocs frame_1_statics s) 600000 7302250 := h
theorem lw_limb (L : Cond) (hL : ∀ (args : Array Value) (s t : State), L.after args s (.returned (some (.int 1))) t = true) :
    ArmFor flags0 classFile x code maxLocals ret World_1 tables_1 room_1 Calls_1 rest_1 Pre_1
      (fun tb e a s o t => postC L tb e a s o t ∧ Framed s o t (fieldLocs frame_1_writes a s ++ arrayLocs frame_1_arrays a s ++ staticLocs frame_1_statics s) 600000 7302250) := by
  intro l hflags _ _ p e ha hc hk s m args below hf hfit hheap happ hpre
  obtain ⟨k, o, h1, h2, h3, rfl, hF⟩ := lw_comes l hflags p e ha hc hk s m args below hf hfit hheap happ hpre
  exact ⟨k, _, h1, h2, h3, hL args s _, lw_frame hF⟩
theorem i_vc : Claimed_1_1 ∧ Claimed_1_2 := ⟨lw_limb limb_1_1 (fun args s t => by simp [limb_1_1, Cond.after, Cond.holds, Cond.value]), lw_limb limb_1_2 (fun args s t => Cond.after_iff.mpr (by
  first | (rw [show limb_1_2 = Cond.eq .result (.int 1) from rfl, Cond.eq_ints (x := 1) (y := 1) rfl rfl]; simp; done) | (simp [limb_1_2, Cond.value, Term.eval]; done)))⟩

