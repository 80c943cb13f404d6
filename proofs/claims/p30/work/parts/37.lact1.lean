/-! the law's acts: what holds before and behind each; begin, setNumber -/
def LX (g b : IF) (f : Nat → Int64) (lt m : IF) (h : HP) (B : FV) (W P o M T : Nat) : Prop := HL h g b f lt m ∧ HB h 5 B ∧ LD g b f B.1 W P o M ∧ LL lt (BS B) ∧ LM m (BS B) ∧ SB (BS B) ∧ B.1.2.1.2.2.2.1 ≤ T
def LW (h : HP) (B : FV) (W P o M T : Nat) : Prop := ∃ g b f lt m, LX g b f lt m h B W P o M T
abbrev AP (T : Nat) : Option Value → HP → Prop := fun r h' => r = some (.int 1) ∧ ∃ B W P o M, LW h' B W P o M (T + 30)
theorem HB.out {h : HP} {B : FV} (H : HB h 5 B) {a : Nat} (c : AC) (ha : 189 ≤ a) : HB (hset h a c) 5 B := H.sm (Sm.of_set (a := a) rfl) (by omega)
theorem HL.ul {h : HP} {g b lt m : IF} {f : Nat → Int64} (H : HL h g b f lt m) (l' : IF) : HL (hset h 192 (cI 24 l')) g b f l' m :=
  ⟨(hset_ne _ _ (by omega)).trans H.1, (hset_ne _ _ (by omega)).trans H.2.1, (hset_ne _ _ (by omega)).trans H.2.2.1, hset_eq _ _ _, (hset_ne _ _ (by omega)).trans H.2.2.2.2⟩
theorem HL.um {h : HP} {g b lt m : IF} {f : Nat → Int64} (H : HL h g b f lt m) (m' : IF) : HL (hset h 193 (cI 61 m')) g b f lt m' :=
  ⟨(hset_ne _ _ (by omega)).trans H.1, (hset_ne _ _ (by omega)).trans H.2.1, (hset_ne _ _ (by omega)).trans H.2.2.1, (hset_ne _ _ (by omega)).trans H.2.2.2.1, hset_eq _ _ _⟩
theorem pb_at {x : Nat} {h h' : HP} {q q' : Int32 × FV} {r : Option Value} (p : PB x h q r h') (e : q = q') : r = some (.int q'.1) ∧ HB h' x q'.2 ∧ Sm x (x + 184) h h' := by
  rw [← e]
  exact p
section LACT
variable {X : CX} {h : HP} {g b lt m : IF} {f : Nat → Int64} {B : FV} {W P o M T n v k c r : Nat} {z : Int32}
theorem LX.fin {T' : Nat} (H : LX g b f lt m h B W P o M T') (ht : T' ≤ T + 30) : AP T (some (.int 1)) h :=
  ⟨rfl, B, W, P, o, M, g, b, f, lt, m, H.1, H.2.1, H.2.2.1, H.2.2.2.1, H.2.2.2.2.1, H.2.2.2.2.2.1, Nat.le_trans H.2.2.2.2.2.2 ht⟩
theorem LX.mono {T' : Nat} (H : LX g b f lt m h B W P o M T) (ht : T ≤ T') : LX g b f lt m h B W P o M T' :=
  ⟨H.1, H.2.1, H.2.2.1, H.2.2.2.1, H.2.2.2.2.1, H.2.2.2.2.2.1, Nat.le_trans H.2.2.2.2.2.2 ht⟩
theorem LD.beg {v : PV} (H : LD g b f v W P o M) {W2 : Nat} (h6 : 6 ≤ W2) (h14 : W2 ≤ 14) {gk bk : IF} {fk : Nat → Int64} (k0 : gk 0 = nI W2) (k1 : ∀ q, 1 ≤ q → q < 4 → gk q = g q) (k2 : ∀ q, 4 ≤ q → q < 28 → gk q = 0) (kb : ∀ q, q < 64 → bk q = 0) (kf : ∀ q, q < 16 → fk q = 0) :
    LD gk bk fk (((nI W2, fun _ => 0, fun _ => 0, fun _ => 0, fun _ => 0, fun _ => 0) : DV), ((0, 0, 0, 0, fun _ => 0) : MV), v.2.2) W2 P o M := by
  obtain ⟨⟨⟨v1, v2, v3, v4, v5, v6⟩, hW, hZ⟩, ⟨⟨a1, a2, a3, a4⟩, ⟨b1, b2, b3⟩, -, -⟩, -, -⟩ := H
  refine ⟨⟨⟨rfl, ⟨h6, by omega⟩, v3, v4, v5, fun c _ => ⟨B7_0, B7_0, B7_0, B7_0⟩⟩, h14, fun c _ _ => ⟨rfl, rfl, rfl, rfl⟩⟩, ⟨⟨k0, (k1 1 (by decide) (by decide)).trans a2, (k1 2 (by decide) (by decide)).trans a3, (k1 3 (by decide) (by decide)).trans a4⟩, ⟨b1, b2, b3⟩, ⟨k2 4 (by decide) (by decide), k2 5 (by decide) (by decide), k2 6 (by decide) (by decide), k2 7 (by decide) (by decide)⟩, fun q h1 h2 h3 => ?_⟩, fun c hc => ⟨kb _ (by omega), kb _ (by omega), kb _ (by omega), kb _ (by omega)⟩, fun c hc => ⟨fun _ => 0, kf c (by omega), fun r hr => ⟨rfl, Nat.zero_le _, fun _ => (by decide : 0 < 200)⟩⟩⟩
  exact absurd (show q ≤ 0 from h3) (by omega)
theorem acts_begin (hX : Cx X RL cL_acts (some .boolean) 7 180 0 0 n (AP T)) (H : LX g b f lt m h B W P o M T) (hv : v < 1000000) : AW X n h 0 0 136 [some (.ref 5), some (.ref 189), some (.ref 190), some (.ref 191), some (.ref 192), some (.ref 193), some (.int z), some (.int (nI v)), some (.int (nI (BS B).2.2.2.2)), some (.int (nI k)), some (.int (nI c)), some (.int (nI r)), none, none, none, none, none, none, none, none, none, none, none, none, none, none] [] := by
  obtain ⟨e, eb, H, hl, hm, hs, hT1⟩ := H
  have hV := H.1.1
  have g0 : g 0 = nI W := H.2.1.1.1
  have hW6 := hV.2.1.1
  have hW14 := H.1.2.1
  obtain ⟨e0, e1, e2, e3, e4⟩ := id e
  have b0 := eb.1
  have loop2 : ∀ (y j : Nat) (gk bk : IF) (fk : Nat → Int64) (hh : HP), gk 0 = nI (6 + v / 4 % 9) → (∀ q, 1 ≤ q → q < 4 → gk q = g q) → (∀ q, 4 ≤ q → q < 28 → gk q = 0) → j ≤ 64 → 64 - j < y → (∀ q, q < j → bk q = 0) → (∀ q, 4 * q < j → fk q = 0) → HL hh gk bk fk lt m → HB hh 5 B → AW X n hh 0 0 202 [some (.ref 5), some (.ref 189), some (.ref 190), some (.ref 191), some (.ref 192), some (.ref 193), some (.int z), some (.int (nI v)), some (.int (nI (BS B).2.2.2.2)), some (.int (nI k)), some (.int (nI c)), some (.int (nI r)), some (.int (nI W)), some (.int (nI j)), none, none, none, none, none, none, none, none, none, none, none, none] [] := by
    intro y
    induction y with
    | zero => intro j gk bk fk hh k0 k1 k2 h1 h2; omega
    | succ y ih =>
      intro j gk bk fk hh k0 k1 k2 h1 h2 h3 h4 e eb
      obtain ⟨e0, e1, e2, e3, e4⟩ := id e
      have b0 := eb.1
      have hbeg : fBegin B (nI (6 + v / 4 % 9)) = (B.1.1.1, ((nI (6 + v / 4 % 9), fun _ => 0, fun _ => 0, fun _ => 0, fun _ => 0, fun _ => 0), (0, 0, 0, 0, fun _ => 0), B.1.2.2), keepF B.2.1 B.1, B.2.2) := if_pos ⟨(nI_leI (a := 6) (b := 6 + v / 4 % 9) (by decide) (by omega)).mpr (by omega), (nI_leI (a := 6 + v / 4 % 9) (b := 40) (by omega) (by decide)).mpr (by omega)⟩
      refine aw_iload hX dL_acts_202 rfl ?_
      refine aw_bipush hX (64) dL_acts_204 (by decide) ?_
      refine aw_icmp_ge hX 227 dL_acts_206 (by decide) (fun c_206 => ?_) (fun c_206 => ?_)
      · have n_206 : 64 ≤ j := (nI_leI (a := 64) (b := j) (by omega) (by omega)).mp c_206
        refine aw_aload_n hX dL_acts_227 rfl ?_
        refine aw_aload_n hX dL_acts_228 rfl ?_
        refine aw_iconst hX (0) dL_acts_229 (by decide) ?_
        refine aw_ialdN hX (0) (by assumption) rfl (by decide) (by first | decide | assumption) dL_acts_230 ?_
        rw [k0]
        refine aw_callV0 hX RL rfl (tX9_begin _ _ _ eb _) rfl mf_X9_begin mi_X9_begin ms_X9_begin kl_L_38 (by assumption) rfl rfl (by decide) (Nat.le_of_ble_eq_true rfl) dL_acts_231 (by decide) (fun v_231 h_231 p_231 => ?_)
        obtain ⟨rfl, eb, sm⟩ := pb_at p_231 hbeg
        refine aw_iload hX dL_acts_234 rfl ?_
        refine aw_icmp_ne hX 243 dL_acts_236 (by decide) (fun c_236 => ?_) (fun c_236 => ?_)
        · exact absurd hV.1 c_236
        · refine aw_iconst hX (1) dL_acts_239 (by decide) ?_
          refine aw_goto hX 244 dL_acts_240 (by decide) ?_
          exact aw_zret hX rfl (by first | exact Or.inl rfl | exact Or.inr rfl | assumption) rfl rfl rfl dL_acts_244 (by exact LX.fin (T' := T) ⟨e.sm sm (by omega), eb, H.beg (by omega) (by omega) k0 k1 k2 (fun q hq => h3 q (by omega)) (fun q hq => h4 q (by omega)), hl, hm, hs, Nat.zero_le _⟩ (by omega))
      · have n_206 : ¬ 64 ≤ j := fun q_ => c_206 ((nI_leI (a := 64) (b := j) (by omega) (by omega)).mpr q_)
        refine aw_aload_n hX dL_acts_209 rfl ?_
        refine aw_iload hX dL_acts_210 rfl ?_
        refine aw_iconst hX (0) dL_acts_212 (by decide) ?_
        refine aw_iastN hX (j) (by assumption) rfl (by omega) (by first | decide | assumption) dL_acts_213 ?_
        have e := e.ub (upd bk j 0)
        have eb := eb.out (a := 190) (cI 64 (upd bk j 0)) (by omega)
        generalize hset hh 190 (cI 64 (upd bk j 0)) = hk at e eb ⊢
        obtain ⟨e0, e1, e2, e3, e4⟩ := id e
        refine aw_aload_n hX dL_acts_214 rfl ?_
        refine aw_iload hX dL_acts_215 rfl ?_
        refine aw_iconst hX (4) dL_acts_217 (by decide) ?_
        refine aw_idiv hX dL_acts_218 (by decide) ?_
        refine AW.top (y := nI (j / 4)) (pk_div (a := j) (d := 4) (by omega) (by decide) (by decide)) ?_
        refine aw_lconst hX (0) dL_acts_219 (by decide) ?_
        refine aw_lastN hX (j / 4) (by assumption) rfl (by omega) (by first | decide | assumption) dL_acts_220 ?_
        refine aw_iinc hX (nI (j + 1)) dL_acts_221 rfl (nI_1 j) ?_
        refine aw_goto hX 202 dL_acts_224 (by decide) ?_
        exact ih (j + 1) gk (upd bk j 0) (vp_updL fk (j / 4) 0) _ k0 k1 k2 (by omega) (by omega) (fun q hq => by by_cases w : q = j; (rw [w, pk_us]); exact (pk_un w).trans (h3 q (by omega))) (fun q hq => by by_cases w : q = j / 4; (rw [w, vpL_s]); exact (vpL_n w).trans (h4 q (by omega))) (e.uf _) (eb.out _ (by omega))
  have loop1 : ∀ (y j : Nat) (gk : IF) (hh : HP), gk 0 = nI (6 + v / 4 % 9) → (∀ q, 1 ≤ q → q < 4 → gk q = g q) → 4 ≤ j → j ≤ 28 → 28 - j < y → (∀ q, 4 ≤ q → q < j → gk q = 0) → HL hh gk b f lt m → HB hh 5 B → AW X n hh 0 0 181 [some (.ref 5), some (.ref 189), some (.ref 190), some (.ref 191), some (.ref 192), some (.ref 193), some (.int z), some (.int (nI v)), some (.int (nI (BS B).2.2.2.2)), some (.int (nI k)), some (.int (nI c)), some (.int (nI r)), some (.int (nI W)), some (.int (nI j)), none, none, none, none, none, none, none, none, none, none, none, none] [] := by
    intro y
    induction y with
    | zero => intro j gk hh k0 k1 h0 h1 h2; omega
    | succ y ih =>
      intro j gk hh k0 k1 h0 h1 h2 h3 e eb
      obtain ⟨e0, e1, e2, e3, e4⟩ := id e
      refine aw_iload hX dL_acts_181 rfl ?_
      refine aw_bipush hX (28) dL_acts_183 (by decide) ?_
      refine aw_icmp_ge hX 199 dL_acts_185 (by decide) (fun c_185 => ?_) (fun c_185 => ?_)
      · have n_185 : 28 ≤ j := (nI_leI (a := 28) (b := j) (by omega) (by omega)).mp c_185
        refine aw_iconst hX (0) dL_acts_199 (by decide) ?_
        refine aw_istore hX dL_acts_200 (Nat.le_of_ble_eq_true rfl) ?_
        exact loop2 65 0 gk b f hh k0 k1 (fun q h4 h5 => h3 q h4 (by omega)) (by decide) (by decide) (fun q hq => absurd hq (Nat.not_lt_zero q)) (fun q hq => absurd hq (Nat.not_lt_zero _)) e eb
      · have n_185 : ¬ 28 ≤ j := fun q_ => c_185 ((nI_leI (a := 28) (b := j) (by omega) (by omega)).mpr q_)
        refine aw_aload_n hX dL_acts_188 rfl ?_
        refine aw_iload hX dL_acts_189 rfl ?_
        refine aw_iconst hX (0) dL_acts_191 (by decide) ?_
        refine aw_iastN hX (j) (by assumption) rfl (by omega) (by first | decide | assumption) dL_acts_192 ?_
        refine aw_iinc hX (nI (j + 1)) dL_acts_193 rfl (nI_1 j) ?_
        refine aw_goto hX 181 dL_acts_196 (by decide) ?_
        exact ih (j + 1) (upd gk j 0) _ ((pk_un (by omega)).trans k0) (fun q h4 h5 => (pk_un (by omega)).trans (k1 q h4 h5)) (by omega) (by omega) (by omega) (fun q h4 h5 => by by_cases w : q = j; (rw [w, pk_us]); exact (pk_un w).trans (h3 q h4 (by omega))) (e.ug _) (eb.out _ (by omega))
  refine aw_iload hX dL_acts_136 rfl ?_
  refine aw_iconst hX (4) dL_acts_138 (by decide) ?_
  refine aw_irem hX dL_acts_139 (by decide) ?_
  refine AW.top (y := nI (v % 4)) (pk_rem (a := v) (d := 4) (by omega) (by decide) (by decide)) ?_
  refine aw_if_le hX 160 dL_acts_140 (by decide) (fun c_140 => ?_) (fun c_140 => ?_)
  · have n_140 : v % 4 ≤ 0 := (nI_leI (a := v % 4) (b := 0) (by omega) (by omega)).mp c_140
    refine aw_aload_n hX dL_acts_160 rfl ?_
    refine aw_iconst hX (0) dL_acts_161 (by decide) ?_
    refine aw_ialdN hX (0) (by assumption) rfl (by decide) (by first | decide | assumption) dL_acts_162 ?_
    rw [g0]
    refine aw_istore hX dL_acts_163 (Nat.le_of_ble_eq_true rfl) ?_
    refine aw_aload_n hX dL_acts_165 rfl ?_
    refine aw_iconst hX (0) dL_acts_166 (by decide) ?_
    refine aw_bipush hX (6) dL_acts_167 (by decide) ?_
    refine aw_iload hX dL_acts_169 rfl ?_
    refine aw_iconst hX (4) dL_acts_171 (by decide) ?_
    refine aw_idiv hX dL_acts_172 (by decide) ?_
    refine AW.top (y := nI (v / 4)) (pk_div (a := v) (d := 4) (by omega) (by decide) (by decide)) ?_
    refine aw_bipush hX (9) dL_acts_173 (by decide) ?_
    refine aw_irem hX dL_acts_175 (by decide) ?_
    refine AW.top (y := nI (v / 4 % 9)) (pk_rem (a := v / 4) (d := 9) (by omega) (by decide) (by decide)) ?_
    refine aw_iadd hX dL_acts_176 ?_
    refine AW.top (y := nI (6 + v / 4 % 9)) (nI_add 6 _) ?_
    refine aw_iastN hX (0) (by assumption) rfl (by decide) (by first | decide | assumption) dL_acts_177 ?_
    refine aw_iconst hX (4) dL_acts_178 (by decide) ?_
    refine aw_istore hX dL_acts_179 (Nat.le_of_ble_eq_true rfl) ?_
    exact loop1 25 4 (upd g 0 (nI (6 + v / 4 % 9))) _ pk_us (fun q h1 h2 => pk_un (by omega)) (by decide) (by decide) (by decide) (fun q h1 h2 => absurd h2 (by omega)) (e.ug _) (eb.out _ (by omega))
  · have n_140 : ¬ v % 4 ≤ 0 := fun q_ => c_140 ((nI_leI (a := v % 4) (b := 0) (by omega) (by omega)).mpr q_)
    refine aw_aload_n hX dL_acts_143 rfl ?_
    refine aw_iconst hX (5) dL_acts_144 (by decide) ?_
    refine aw_callV0 hX RL rfl (tX9_begin _ _ _ eb _) rfl mf_X9_begin mi_X9_begin ms_X9_begin kl_L_38 (by assumption) rfl rfl (by decide) (Nat.le_of_ble_eq_true rfl) dL_acts_145 (by decide) (fun v_145 h_145 p_145 => ?_)
    obtain ⟨rfl, eb, sm⟩ := pb_at p_145 (show fBegin B 5 = (-1001, B) from if_neg (by decide))
    refine aw_sipush hX (-1001) dL_acts_148 (by decide) ?_
    refine aw_icmp_ne hX 158 dL_acts_151 (by decide) (fun c_151 => ?_) (fun c_151 => ?_)
    · exact absurd rfl c_151
    · refine aw_iconst hX (1) dL_acts_154 (by decide) ?_
      refine aw_goto hX 159 dL_acts_155 (by decide) ?_
      exact aw_zret hX rfl (by first | exact Or.inl rfl | exact Or.inr rfl | assumption) rfl rfl rfl dL_acts_159 (by exact LX.fin (T' := T) ⟨e.sm sm (by omega), eb, H, hl, hm, hs, hT1⟩ (by omega))
theorem LD.num {v : PV} (H : LD g b f v W P o M) {w y : Nat} (hw : w < 3) (h0 : w = 0 → 2 ≤ y ∧ y ≤ 50) (h1 : w = 1 → y ≤ 2) (h2 : w = 2 → 1 ≤ y ∧ y ≤ 200) : v.2.2.2 w = g (1 + w) ∧ LD (upd g (1 + w) (nI y)) b f (v.1, v.2.1, v.2.2.1, upd v.2.2.2 w (nI y)) W (if w = 0 then y else P) (if w = 1 then y else o) (if w = 2 then y else M) := by
  obtain ⟨⟨⟨v1, v2, v3, ⟨v4, v4a⟩, ⟨v5, v5a⟩, v6⟩, hW, hZ⟩, ⟨⟨a1, a2, a3, a4⟩, ⟨b1, b2, b3⟩, ⟨c1, c2, c3, c4⟩, d⟩, hb, hf⟩ := H
  have hd : ∀ q, 1 ≤ q → q ≤ 20 → q ≤ v.2.1.2.2.2.1 → upd g (1 + w) (nI y) (7 + q) = v.2.1.2.2.2.2 ((v.2.1.2.2.2.1 - q) % 20) := fun q q1 q2 q3 => (pk_un (by omega)).trans (d q q1 q2 q3)
  have hc : upd g (1 + w) (nI y) 4 = v.2.1.1 ∧ upd g (1 + w) (nI y) 5 = v.2.1.2.1 ∧ upd g (1 + w) (nI y) 6 = v.2.1.2.2.1 ∧ upd g (1 + w) (nI y) 7 = nI v.2.1.2.2.2.1 := ⟨(pk_un (by omega)).trans c1, (pk_un (by omega)).trans c2, (pk_un (by omega)).trans c3, (pk_un (by omega)).trans c4⟩
  have ha : upd g (1 + w) (nI y) 0 = nI W := (pk_un (by omega)).trans a1
  have u : ∀ q, ¬ q = w → upd v.2.2.2 w (nI y) q = v.2.2.2 q := fun q hq => pk_un hq
  have us : upd v.2.2.2 w (nI y) w = nI y := pk_us
  have t : ∀ q, ¬ q = 1 + w → upd g (1 + w) (nI y) q = g q := fun q hq => pk_un hq
  have ts : upd g (1 + w) (nI y) (1 + w) = nI y := pk_us
  rcases (show w = 0 ∨ w = 1 ∨ w = 2 by omega) with q | q | q <;> subst q
  · exact ⟨v4.trans a2.symm, ⟨⟨v1, v2, v3, ⟨us, h0 rfl⟩, ⟨(u 1 (by decide)).trans v5, v5a⟩, v6⟩, hW, hZ⟩, ⟨⟨ha, ts, (t 2 (by decide)).trans a3, (t 3 (by decide)).trans a4⟩, ⟨(u 2 (by decide)).trans b1, b2, b3⟩, hc, hd⟩, hb, hf⟩
  · exact ⟨v5.trans a3.symm, ⟨⟨v1, v2, v3, ⟨(u 0 (by decide)).trans v4, v4a⟩, ⟨us, h1 rfl⟩, v6⟩, hW, hZ⟩, ⟨⟨ha, (t 1 (by decide)).trans a2, ts, (t 3 (by decide)).trans a4⟩, ⟨(u 2 (by decide)).trans b1, b2, b3⟩, hc, hd⟩, hb, hf⟩
  · exact ⟨b1.trans a4.symm, ⟨⟨v1, v2, v3, ⟨(u 0 (by decide)).trans v4, v4a⟩, ⟨(u 1 (by decide)).trans v5, v5a⟩, v6⟩, hW, hZ⟩, ⟨⟨ha, (t 1 (by decide)).trans a2, (t 2 (by decide)).trans a3, ts⟩, ⟨us, h2 rfl⟩, hc, hd⟩, hb, hf⟩
theorem acts_number (hX : Cx X RL cL_acts (some .boolean) 7 180 0 0 n (AP T)) (H : LX g b f lt m h B W P o M T) (hv : v < 1000000) : AW X n h 0 0 245 [some (.ref 5), some (.ref 189), some (.ref 190), some (.ref 191), some (.ref 192), some (.ref 193), some (.int z), some (.int (nI v)), some (.int (nI (BS B).2.2.2.2)), some (.int (nI k)), some (.int (nI c)), some (.int (nI r)), none, none, none, none, none, none, none, none, none, none, none, none, none, none] [] := by
  obtain ⟨e, eb, H, hl, hm, hs, hT1⟩ := H
  obtain ⟨e0, e1, e2, e3, e4⟩ := id e
  have tail : ∀ (w y : Nat), w < 3 → (w = 0 → 2 ≤ y ∧ y ≤ 50) → (w = 1 → y ≤ 2) → (w = 2 → 1 ≤ y ∧ y ≤ 200) → AW X n h 0 0 316 [some (.ref 5), some (.ref 189), some (.ref 190), some (.ref 191), some (.ref 192), some (.ref 193), some (.int z), some (.int (nI v)), some (.int (nI (BS B).2.2.2.2)), some (.int (nI k)), some (.int (nI c)), some (.int (nI r)), none, some (.int (nI w)), none, none, none, none, none, none, none, none, none, none, none, none] [.int (nI y)] := by
    intro w y hw h0 h1 h2
    obtain ⟨n1, n2⟩ := H.num hw h0 h1 h2
    have hwc : (nI w).toNatClampNeg = w := nI_clamp (by omega)
    have hsn : fSetNumber B (nI w) (nI y) = (B.1.2.2.2 w, (B.1.1, B.1.2.1, B.1.2.2.1, upd B.1.2.2.2 w (nI y)), keepF B.2.1 B.1, B.2.2) := by
      rw [fSetNumber, hwc, if_pos]
      refine ⟨⟨Int32.not_lt.mp (nI_pos (by omega)), (nI_ltI (a := w) (b := 3) (by omega) (by decide)).mpr hw⟩, ?_, ?_⟩
      · rcases (show w = 0 ∨ w = 1 ∨ w = 2 by omega) with q | q | q <;> subst q
        · exact (nI_leI (a := 2) (b := y) (by decide) (by have := h0 rfl; omega)).mpr (h0 rfl).1
        · exact (nI_leI (a := 0) (b := y) (by decide) (by have := h1 rfl; omega)).mpr (Nat.zero_le _)
        · exact (nI_leI (a := 1) (b := y) (by decide) (by have := h2 rfl; omega)).mpr (h2 rfl).1
      · rcases (show w = 0 ∨ w = 1 ∨ w = 2 by omega) with q | q | q <;> subst q
        · exact (nI_leI (a := y) (b := 50) (by have := h0 rfl; omega) (by decide)).mpr (h0 rfl).2
        · exact (nI_leI (a := y) (b := 2) (by have := h1 rfl; omega) (by decide)).mpr (h1 rfl)
        · exact (nI_leI (a := y) (b := 200) (by have := h2 rfl; omega) (by decide)).mpr (h2 rfl).2
    refine aw_istore hX dL_acts_316 (Nat.le_of_ble_eq_true rfl) ?_
    refine aw_aload_n hX dL_acts_318 rfl ?_
    refine aw_iconst hX (1) dL_acts_319 (by decide) ?_
    refine aw_iload hX dL_acts_320 rfl ?_
    refine aw_iadd hX dL_acts_322 ?_
    refine aw_ialdN hX (1 + w) (by assumption) (nI_add 1 w) (by omega) (by first | decide | assumption) dL_acts_323 ?_
    refine aw_istore hX dL_acts_324 (Nat.le_of_ble_eq_true rfl) ?_
    refine aw_aload_n hX dL_acts_326 rfl ?_
    refine aw_iconst hX (1) dL_acts_327 (by decide) ?_
    refine aw_iload hX dL_acts_328 rfl ?_
    refine aw_iadd hX dL_acts_330 ?_
    refine aw_iload hX dL_acts_331 rfl ?_
    refine aw_iastN hX (1 + w) (by assumption) (nI_add 1 w) (by omega) (by first | decide | assumption) dL_acts_333 ?_
    have e := e.ug (upd g (1 + w) (nI y))
    have eb := eb.out (a := 189) (cI 28 (upd g (1 + w) (nI y))) (by omega)
    generalize hset h 189 (cI 28 (upd g (1 + w) (nI y))) = hk at e eb ⊢
    have b0 := eb.1
    refine aw_aload_n hX dL_acts_334 rfl ?_
    refine aw_iload hX dL_acts_335 rfl ?_
    refine aw_iload hX dL_acts_337 rfl ?_
    refine aw_callV0 hX RL rfl (tX9_setNumber _ _ _ eb _ _) rfl mf_X9_setNumber mi_X9_setNumber ms_X9_setNumber kl_L_43 (by assumption) rfl rfl (by decide) (Nat.le_of_ble_eq_true rfl) dL_acts_339 (by decide) (fun v_339 h_339 p_339 => ?_)
    obtain ⟨rfl, eb, sm⟩ := pb_at p_339 hsn
    refine aw_iload hX dL_acts_342 rfl ?_
    refine aw_icmp_ne hX 351 dL_acts_344 (by decide) (fun c_344 => ?_) (fun c_344 => ?_)
    · exact absurd n1 c_344
    · refine aw_iconst hX (1) dL_acts_347 (by decide) ?_
      refine aw_goto hX 352 dL_acts_348 (by decide) ?_
      exact aw_zret hX rfl (by first | exact Or.inl rfl | exact Or.inr rfl | assumption) rfl rfl rfl dL_acts_352 (by exact LX.fin (T' := T) ⟨e.sm sm (by omega), eb, n2, hl, hm, hs, hT1⟩ (by omega))
  refine aw_iload hX dL_acts_245 rfl ?_
  refine aw_iconst hX (3) dL_acts_247 (by decide) ?_
  refine aw_irem hX dL_acts_248 (by decide) ?_
  refine AW.top (y := nI (v % 3)) (pk_rem (a := v) (d := 3) (by omega) (by decide) (by decide)) ?_
  refine aw_istore hX dL_acts_249 (Nat.le_of_ble_eq_true rfl) ?_
  refine aw_iload hX dL_acts_251 rfl ?_
  refine aw_if_ne hX 280 dL_acts_253 (by decide) (fun c_253 => ?_) (fun c_253 => ?_)
  · have n_253 : ¬ v % 3 = 0 := fun q_ => c_253 ((nI_eq (a := v % 3) (b := 0) (by omega) (by omega)).mpr q_)
    refine aw_iload hX dL_acts_280 rfl ?_
    refine aw_iconst hX (1) dL_acts_282 (by decide) ?_
    refine aw_icmp_ne hX 295 dL_acts_283 (by decide) (fun c_283 => ?_) (fun c_283 => ?_)
    · have n_283 : ¬ v % 3 = 1 := fun q_ => c_283 ((nI_eq (a := v % 3) (b := 1) (by omega) (by omega)).mpr q_)
      refine aw_iconst hX (1) dL_acts_295 (by decide) ?_
      refine aw_iload hX dL_acts_296 rfl ?_
      refine aw_iconst hX (3) dL_acts_298 (by decide) ?_
      refine aw_idiv hX dL_acts_299 (by decide) ?_
      refine AW.top (y := nI (v / 3)) (pk_div (a := v) (d := 3) (by omega) (by decide) (by decide)) ?_
      refine aw_iload hX dL_acts_300 rfl ?_
      refine aw_iconst hX (2) dL_acts_302 (by decide) ?_
      refine aw_irem hX dL_acts_303 (by decide) ?_
      refine AW.top (y := nI (v % 2)) (pk_rem (a := v) (d := 2) (by omega) (by decide) (by decide)) ?_
      refine aw_if_ne hX 313 dL_acts_304 (by decide) (fun c_304 => ?_) (fun c_304 => ?_)
      · have n_304 : ¬ v % 2 = 0 := fun q_ => c_304 ((nI_eq (a := v % 2) (b := 0) (by omega) (by omega)).mpr q_)
        refine aw_iconst hX (4) dL_acts_313 (by decide) ?_
        refine aw_irem hX dL_acts_314 (by decide) ?_
        refine AW.top (y := nI (v / 3 % 4)) (pk_rem (a := v / 3) (d := 4) (by omega) (by decide) (by decide)) ?_
        refine aw_iadd hX dL_acts_315 ?_
        refine AW.top (y := nI (1 + v / 3 % 4)) (nI_add 1 _) ?_
        exact tail (v % 3) (1 + v / 3 % 4) (by omega) (fun q => by omega) (fun q => by omega) (fun q => by omega)
      · have n_304 : v % 2 = 0 := (nI_eq (a := v % 2) (b := 0) (by omega) (by omega)).mp c_304
        refine aw_sipush hX (200) dL_acts_307 (by decide) ?_
        refine aw_goto hX 314 dL_acts_310 (by decide) ?_
        refine aw_irem hX dL_acts_314 (by decide) ?_
        refine AW.top (y := nI (v / 3 % 200)) (pk_rem (a := v / 3) (d := 200) (by omega) (by decide) (by decide)) ?_
        refine aw_iadd hX dL_acts_315 ?_
        refine AW.top (y := nI (1 + v / 3 % 200)) (nI_add 1 _) ?_
        exact tail (v % 3) (1 + v / 3 % 200) (by omega) (fun q => by omega) (fun q => by omega) (fun q => by omega)
    · have n_283 : v % 3 = 1 := (nI_eq (a := v % 3) (b := 1) (by omega) (by omega)).mp c_283
      refine aw_iload hX dL_acts_286 rfl ?_
      refine aw_iconst hX (3) dL_acts_288 (by decide) ?_
      refine aw_idiv hX dL_acts_289 (by decide) ?_
      refine AW.top (y := nI (v / 3)) (pk_div (a := v) (d := 3) (by omega) (by decide) (by decide)) ?_
      refine aw_iconst hX (3) dL_acts_290 (by decide) ?_
      refine aw_irem hX dL_acts_291 (by decide) ?_
      refine AW.top (y := nI (v / 3 % 3)) (pk_rem (a := v / 3) (d := 3) (by omega) (by decide) (by decide)) ?_
      refine aw_goto hX 316 dL_acts_292 (by decide) ?_
      exact tail (v % 3) (v / 3 % 3) (by omega) (fun q => by omega) (fun q => by omega) (fun q => by omega)
  · have n_253 : v % 3 = 0 := (nI_eq (a := v % 3) (b := 0) (by omega) (by omega)).mp c_253
    refine aw_iconst hX (2) dL_acts_256 (by decide) ?_
    refine aw_iload hX dL_acts_257 rfl ?_
    refine aw_iconst hX (3) dL_acts_259 (by decide) ?_
    refine aw_idiv hX dL_acts_260 (by decide) ?_
    refine AW.top (y := nI (v / 3)) (pk_div (a := v) (d := 3) (by omega) (by decide) (by decide)) ?_
    refine aw_iload hX dL_acts_261 rfl ?_
    refine aw_iconst hX (2) dL_acts_263 (by decide) ?_
    refine aw_irem hX dL_acts_264 (by decide) ?_
    refine AW.top (y := nI (v % 2)) (pk_rem (a := v) (d := 2) (by omega) (by decide) (by decide)) ?_
    refine aw_if_ne hX 273 dL_acts_265 (by decide) (fun c_265 => ?_) (fun c_265 => ?_)
    · have n_265 : ¬ v % 2 = 0 := fun q_ => c_265 ((nI_eq (a := v % 2) (b := 0) (by omega) (by omega)).mpr q_)
      refine aw_bipush hX (12) dL_acts_273 (by decide) ?_
      refine aw_irem hX dL_acts_275 (by decide) ?_
      refine AW.top (y := nI (v / 3 % 12)) (pk_rem (a := v / 3) (d := 12) (by omega) (by decide) (by decide)) ?_
      refine aw_iadd hX dL_acts_276 ?_
      refine AW.top (y := nI (2 + v / 3 % 12)) (nI_add 2 _) ?_
      refine aw_goto hX 316 dL_acts_277 (by decide) ?_
      exact tail (v % 3) (2 + v / 3 % 12) (by omega) (fun _ => by omega) (fun q => by omega) (fun q => by omega)
    · have n_265 : v % 2 = 0 := (nI_eq (a := v % 2) (b := 0) (by omega) (by omega)).mp c_265
      refine aw_bipush hX (49) dL_acts_268 (by decide) ?_
      refine aw_goto hX 275 dL_acts_270 (by decide) ?_
      refine aw_irem hX dL_acts_275 (by decide) ?_
      refine AW.top (y := nI (v / 3 % 49)) (pk_rem (a := v / 3) (d := 49) (by omega) (by decide) (by decide)) ?_
      refine aw_iadd hX dL_acts_276 ?_
      refine AW.top (y := nI (2 + v / 3 % 49)) (nI_add 2 _) ?_
      refine aw_goto hX 316 dL_acts_277 (by decide) ?_
      exact tail (v % 3) (2 + v / 3 % 49) (by omega) (fun _ => by omega) (fun q => by omega) (fun q => by omega)
end LACT
