/-! the law: a call of both boards -/
def OKB (B : FV) (n : Nat) : Prop := (∀ j, j < 120 → B.2.2.1 j < 256) ∧ B.2.2.2 ≤ 120 ∧ B.1.2.1.2.2.2.1 ≤ n ∧ ∀ v, v ∈ B.2.1 → v.2.1.2.2.2.1 ≤ n
theorem keepF_mem {Hs : List PV} {v u : PV} (h : u ∈ keepF Hs v) : u ∈ Hs ∨ u = v := by
  unfold keepF at h
  split at h
  · rcases List.mem_append.mp h with h | h
    · exact Or.inl h
    · exact Or.inr (List.mem_singleton.mp h)
  · rcases List.mem_append.mp h with h | h
    · exact Or.inl (List.mem_of_mem_tail h)
    · exact Or.inr (List.mem_singleton.mp h)
theorem OKB.mono {B : FV} {n m : Nat} (H : OKB B n) (h : n ≤ m) : OKB B m := ⟨H.1, H.2.1, Nat.le_trans H.2.2.1 h, fun v hv => Nat.le_trans (H.2.2.2 v hv) h⟩
theorem OKB.keep {B : FV} {n : Nat} (H : OKB B n) {v' : PV} (hv : v'.2.1.2.2.2.1 ≤ n + 200) : OKB (v', keepF B.2.1 B.1, B.2.2) (n + 200) := ⟨H.1, H.2.1, hv, fun u hu => by
  rcases keepF_mem hu with q | q
  · exact Nat.le_trans (H.2.2.2 u q) (by omega)
  · rw [q]
    exact Nat.le_trans H.2.2.1 (by omega)⟩
theorem OKB.same {B : FV} {n : Nat} (H : OKB B n) {v' : PV} (hv : v'.2.1.2.2.2.1 = B.1.2.1.2.2.2.1) : OKB (v', keepF B.2.1 B.1, B.2.2) (n + 200) := H.keep (by rw [hv]; exact Nat.le_trans H.2.2.1 (by omega))
section OK
variable {B : FV} {n : Nat}
theorem ok_begin (H : OKB B n) (c : Int32) : OKB (fBegin B c).2 (n + 200) := by
  unfold fBegin
  split
  · exact H.keep (Nat.zero_le _)
  · exact H.mono (by omega)
theorem ok_setNumber (H : OKB B n) (w y : Int32) : OKB (fSetNumber B w y).2 (n + 200) := by
  unfold fSetNumber
  split
  · exact H.same rfl
  · exact H.mono (by omega)
theorem ok_setColumn (H : OKB B n) (l i b : Int32) : OKB (fSetColumn B l i b).2 (n + 200) := by
  unfold fSetColumn
  split
  · exact H.same rfl
  · exact H.mono (by omega)
theorem ok_addMessage (H : OKB B n) (f s : Int32) : OKB (fAddMessage B f s).2 (n + 200) := by
  unfold fAddMessage
  split
  · split
    · exact H.same rfl
    · exact H.mono (by omega)
  · exact H.mono (by omega)
theorem ok_removeMessage (H : OKB B n) (m : Int32) : OKB (fRemoveMessage B m).2 (n + 200) := by
  unfold fRemoveMessage
  split
  · exact H.same rfl
  · exact H.mono (by omega)
theorem ok_append (H : OKB B n) (c : Int32) : OKB (fAppend B c).2 (n + 200) := by
  unfold fAppend
  split
  · rename_i hv
    split
    · obtain ⟨k, hk, rfl⟩ := rng 256 (by decide) hv.1 (Int32.lt_of_le_of_lt hv.2 (by decide))
      have hkc : (nI k).toNatClampNeg = k := nI_clamp (by omega)
      refine ⟨fun j hj => ?_, by show B.2.2.2 + 1 ≤ 120; omega, Nat.le_trans H.2.2.1 (by omega), fun v hv => Nat.le_trans (H.2.2.2 v hv) (by omega)⟩
      show updN B.2.2.1 B.2.2.2 (nI k).toNatClampNeg j < 256
      rw [hkc]
      unfold updN
      split
      · exact hk
      · exact H.1 j hj
    · exact H.mono (by omega)
  · exact H.mono (by omega)
theorem ok_clear (H : OKB B n) : OKB (fClear B).2 (n + 200) := ⟨H.1, Nat.zero_le _, Nat.le_trans H.2.2.1 (by omega), fun v hv => Nat.le_trans (H.2.2.2 v hv) (by omega)⟩
theorem ok_load (H : OKB B n) (a b : Nat) : OKB (fLoad B a b).2 (n + 200) := by
  unfold fLoad
  split
  · have h := H.same (v' := (B.1.1, B.1.2.1, (rdF B.2.2.1 B.2.2.2 0 (BS B, 0, 0, a, b)).2.1, B.1.2.2.2)) rfl
    exact ⟨h.1, Nat.zero_le _, h.2.2⟩
  · exact H.mono (by omega)
theorem ok_show (H : OKB B n) {W : Nat} (m w : Int32) : OKB (fShow B W m w).2 (n + 200) := by
  unfold fShow
  split
  · exact H.same rfl
  · exact H.mono (by omega)
theorem ok_darken (H : OKB B n) : OKB (fDarken B).2 (n + 200) := H.same rfl
theorem ok_jam (H : OKB B n) (c r : Int32) : OKB (fJam B c r).2 (n + 200) := by
  unfold fJam
  split
  · split
    · exact H.same rfl
    · exact H.mono (by omega)
  · exact H.mono (by omega)
theorem ok_mend (H : OKB B n) (c r : Int32) : OKB (fMend B c r).2 (n + 200) := by
  unfold fMend
  split
  · exact H.same rfl
  · exact H.mono (by omega)
theorem ok_pass (H : OKB B n) {P o : Nat} (s : Int32) : OKB (fPass B P o s).2 (n + 200) := by
  unfold fPass
  split
  · rename_i hv
    obtain ⟨k, hk, rfl⟩ := rng 201 (by decide) (Int32.le_trans (by decide) hv.1) (Int32.lt_of_le_of_lt hv.2 (by decide))
    have hkc : (nI k).toNatClampNeg = k := nI_clamp (by omega)
    rw [hkc]
    refine H.keep ?_
    rw [(secN_K B.1 P o k).2.2]
    have := H.2.2.1
    omega
  · exact H.mono (by omega)
theorem getLastD_in {v : PV} : ∀ (l : List PV), l.getLastD v = v ∨ l.getLastD v ∈ l := fun l => by
  rw [List.getLastD_eq_getLast?]
  cases h : l.getLast? with
  | none => exact Or.inl rfl
  | some x => exact Or.inr (List.mem_of_getLast? h)
theorem ok_undo (H : OKB B n) : OKB (fUndo B).2 (n + 200) := by
  unfold fUndo
  split
  · exact H.mono (by omega)
  · refine ⟨H.1, H.2.1, ?_, fun v hv => Nat.le_trans (H.2.2.2 v ((List.dropLast_sublist _).subset hv)) (by omega)⟩
    show (B.2.1.getLastD B.1).2.1.2.2.2.1 ≤ n + 200
    rcases getLastD_in (v := B.1) B.2.1 with q | q
    · rw [q]
      exact Nat.le_trans H.2.2.1 (by omega)
    · exact Nat.le_trans (H.2.2.2 _ q) (by omega)
end OK
section HRL
variable {h : HP} {y : Nat} {B : FV} {W P o : Nat}
theorem HR.sm {h' : HP} {lo hi : Nat} (H : HR h y B W P o) (s : Sm lo hi h h') (hq : hi ≤ y ∨ y + 13 ≤ lo) : HR h' y B W P o := by
  obtain ⟨s1, pa, sp, om, ⟨g0, g1⟩, ⟨⟨f1, h1⟩, ⟨f2, h2⟩, ⟨f3, h3⟩, ⟨f4, h4⟩, ⟨f5, h5⟩, ⟨f6, h6⟩, ⟨f7, h7⟩, ⟨f8, h8⟩, ⟨f9, h9⟩⟩, g3, g4, g5⟩ := H
  exact ⟨s1, pa, sp, om, ⟨(s.at (by omega)).trans g0, (s.at (by omega)).trans g1⟩, ⟨⟨f1, (s.at (by omega)).trans h1⟩, ⟨f2, (s.at (by omega)).trans h2⟩, ⟨f3, (s.at (by omega)).trans h3⟩, ⟨f4, (s.at (by omega)).trans h4⟩, ⟨f5, (s.at (by omega)).trans h5⟩, ⟨f6, (s.at (by omega)).trans h6⟩, ⟨f7, (s.at (by omega)).trans h7⟩, ⟨f8, (s.at (by omega)).trans h8⟩, ⟨f9, (s.at (by omega)).trans h9⟩⟩, (s.at (by omega)).trans g3, (s.at (by omega)).trans g4, g5⟩
theorem HR.obj (H : HR h y B W P o) : ∃ ps ty sp om, h y = some (oM y ps ty sp om) := by
  obtain ⟨s, pa, sp, om, g, -⟩ := H
  exact ⟨_, _, _, _, g.1⟩
theorem HR.vw (H : HR h y B W P o) : VW B.1 W P o := by
  obtain ⟨s, pa, sp, om, g1, g2, g3, g4, g5, -⟩ := H
  exact g5.2.1
theorem HR.ws (H : HR h y B W P o) : WS (BS B) := H.vw.2.2.1
theorem HR.sb (H : HR h y B W P o) : SB (BS B) := by
  obtain ⟨s, pa, sp, om, g1, g2, g3, g4, g5, -⟩ := H
  exact g5.2.2.1
end HRL
section LAW
variable {X : CX} {post : Option Value → HP → Prop} {hh : HP} {B : FV} {W P o i c L : Nat}

theorem law_0 (hX : Cx X RL cL_law (some .boolean) 9 352 197 13897 202 post) (hLE : eN X.E 4 = L) (hL : L ≤ 2048) (hi : i + 4 ≤ L) (hc : c < 512) (hb : HB hh 5 B) (hr : HR hh 189 B W P o) (hok : OKB B (200 * c)) (next : ∀ (hh : HP) (B : FV) (W P o : Nat), HB hh 5 B → HR hh 189 B W P o → OKB B (200 * c + 200) → AW X 202 hh 197 13897 907 [some (.ref 4), some (.ref 5), some (.ref 189), some (.int (nI i))] []) : AW X 202 hh 197 13897 156 [some (.ref 4), some (.ref 5), some (.ref 189), some (.int (nI i))] [] := by
  have e0 := hb.1
  obtain ⟨_, _, _, _, y0⟩ := hr.obj
  refine aw_aload_n hX dL_law_156 rfl ?_
  refine aw_aload_n hX dL_law_157 rfl ?_
  refine aw_iload_n hX dL_law_158 rfl ?_
  refine aw_iconst hX (1) dL_law_159 (by decide) ?_
  refine aw_iadd hX dL_law_160 ?_
  refine aw_roaldN hX (i + 1) (by decide) (nI_add i 1) (by rw [hLE]; omega) (by rw [hLE]; omega) dL_law_161 ?_
  refine aw_callV0 hX RL rfl (tX9_begin _ _ _ hb _) rfl mf_X9_begin mi_X9_begin ms_X9_begin kl_L_13 (by assumption) rfl rfl (by decide) (Nat.le_of_ble_eq_true rfl) dL_law_162 (by decide) (fun v_162 h_162 p_162 => ?_)
  obtain ⟨rfl, hb, sm⟩ := p_162
  have hr := hr.sm sm (by omega)
  obtain ⟨_, _, _, _, y0⟩ := hr.obj
  refine aw_aload_n hX dL_law_165 rfl ?_
  refine aw_aload_n hX dL_law_166 rfl ?_
  refine aw_iload_n hX dL_law_167 rfl ?_
  refine aw_iconst hX (1) dL_law_168 (by decide) ?_
  refine aw_iadd hX dL_law_169 ?_
  refine aw_roaldN hX (i + 1) (by decide) (nI_add i 1) (by rw [hLE]; omega) (by rw [hLE]; omega) dL_law_170 ?_
  refine aw_callV0 hX RL rfl (tX10_begin _ _ _ hr _) rfl mf_X10_begin mi_X10_begin ms_X10_begin kl_L_17 (by assumption) rfl rfl (by decide) (Nat.le_of_ble_eq_true rfl) dL_law_171 (by decide) (fun v_171 h_171 p_171 => ?_)
  obtain ⟨rfl, ⟨W2, P2, o2, hr⟩, sm⟩ := p_171
  have hb := hb.sm sm (by omega)
  refine aw_icmp_eq hX 907 dL_law_174 (by decide) (fun c_174 => ?_) (fun c_174 => ?_)
  · exact next _ _ _ _ _ hb hr (ok_begin hok _)
  · exact absurd rfl c_174
theorem law_1 (hX : Cx X RL cL_law (some .boolean) 9 352 197 13897 202 post) (hLE : eN X.E 4 = L) (hL : L ≤ 2048) (hi : i + 4 ≤ L) (hc : c < 512) (hb : HB hh 5 B) (hr : HR hh 189 B W P o) (hok : OKB B (200 * c)) (next : ∀ (hh : HP) (B : FV) (W P o : Nat), HB hh 5 B → HR hh 189 B W P o → OKB B (200 * c + 200) → AW X 202 hh 197 13897 907 [some (.ref 4), some (.ref 5), some (.ref 189), some (.int (nI i))] []) : AW X 202 hh 197 13897 179 [some (.ref 4), some (.ref 5), some (.ref 189), some (.int (nI i))] [] := by
  have e0 := hb.1
  obtain ⟨_, _, _, _, y0⟩ := hr.obj
  refine aw_aload_n hX dL_law_179 rfl ?_
  refine aw_aload_n hX dL_law_180 rfl ?_
  refine aw_iload_n hX dL_law_181 rfl ?_
  refine aw_iconst hX (1) dL_law_182 (by decide) ?_
  refine aw_iadd hX dL_law_183 ?_
  refine aw_roaldN hX (i + 1) (by decide) (nI_add i 1) (by rw [hLE]; omega) (by rw [hLE]; omega) dL_law_184 ?_
  refine aw_aload_n hX dL_law_185 rfl ?_
  refine aw_iload_n hX dL_law_186 rfl ?_
  refine aw_iconst hX (2) dL_law_187 (by decide) ?_
  refine aw_iadd hX dL_law_188 ?_
  refine aw_roaldN hX (i + 2) (by decide) (nI_add i 2) (by rw [hLE]; omega) (by rw [hLE]; omega) dL_law_189 ?_
  refine aw_callV0 hX RL rfl (tX9_setNumber _ _ _ hb _ _) rfl mf_X9_setNumber mi_X9_setNumber ms_X9_setNumber kl_L_18 (by assumption) rfl rfl (by decide) (Nat.le_of_ble_eq_true rfl) dL_law_190 (by decide) (fun v_190 h_190 p_190 => ?_)
  obtain ⟨rfl, hb, sm⟩ := p_190
  have hr := hr.sm sm (by omega)
  obtain ⟨_, _, _, _, y0⟩ := hr.obj
  refine aw_aload_n hX dL_law_193 rfl ?_
  refine aw_aload_n hX dL_law_194 rfl ?_
  refine aw_iload_n hX dL_law_195 rfl ?_
  refine aw_iconst hX (1) dL_law_196 (by decide) ?_
  refine aw_iadd hX dL_law_197 ?_
  refine aw_roaldN hX (i + 1) (by decide) (nI_add i 1) (by rw [hLE]; omega) (by rw [hLE]; omega) dL_law_198 ?_
  refine aw_aload_n hX dL_law_199 rfl ?_
  refine aw_iload_n hX dL_law_200 rfl ?_
  refine aw_iconst hX (2) dL_law_201 (by decide) ?_
  refine aw_iadd hX dL_law_202 ?_
  refine aw_roaldN hX (i + 2) (by decide) (nI_add i 2) (by rw [hLE]; omega) (by rw [hLE]; omega) dL_law_203 ?_
  refine aw_callV0 hX RL rfl (tX10_setNumber _ _ _ hr _ _) rfl mf_X10_setNumber mi_X10_setNumber ms_X10_setNumber kl_L_22 (by assumption) rfl rfl (by decide) (Nat.le_of_ble_eq_true rfl) dL_law_204 (by decide) (fun v_204 h_204 p_204 => ?_)
  obtain ⟨rfl, ⟨W2, P2, o2, hr⟩, sm⟩ := p_204
  have hb := hb.sm sm (by omega)
  refine aw_icmp_eq hX 907 dL_law_207 (by decide) (fun c_207 => ?_) (fun c_207 => ?_)
  · exact next _ _ _ _ _ hb hr (ok_setNumber hok _ _)
  · exact absurd rfl c_207
theorem law_2 (hX : Cx X RL cL_law (some .boolean) 9 352 197 13897 202 post) (hLE : eN X.E 4 = L) (hL : L ≤ 2048) (hi : i + 4 ≤ L) (hc : c < 512) (hb : HB hh 5 B) (hr : HR hh 189 B W P o) (hok : OKB B (200 * c)) (next : ∀ (hh : HP) (B : FV) (W P o : Nat), HB hh 5 B → HR hh 189 B W P o → OKB B (200 * c + 200) → AW X 202 hh 197 13897 907 [some (.ref 4), some (.ref 5), some (.ref 189), some (.int (nI i))] []) : AW X 202 hh 197 13897 212 [some (.ref 4), some (.ref 5), some (.ref 189), some (.int (nI i))] [] := by
  have e0 := hb.1
  obtain ⟨_, _, _, _, y0⟩ := hr.obj
  refine aw_aload_n hX dL_law_212 rfl ?_
  refine aw_aload_n hX dL_law_213 rfl ?_
  refine aw_iload_n hX dL_law_214 rfl ?_
  refine aw_iconst hX (1) dL_law_215 (by decide) ?_
  refine aw_iadd hX dL_law_216 ?_
  refine aw_roaldN hX (i + 1) (by decide) (nI_add i 1) (by rw [hLE]; omega) (by rw [hLE]; omega) dL_law_217 ?_
  refine aw_aload_n hX dL_law_218 rfl ?_
  refine aw_iload_n hX dL_law_219 rfl ?_
  refine aw_iconst hX (2) dL_law_220 (by decide) ?_
  refine aw_iadd hX dL_law_221 ?_
  refine aw_roaldN hX (i + 2) (by decide) (nI_add i 2) (by rw [hLE]; omega) (by rw [hLE]; omega) dL_law_222 ?_
  refine aw_aload_n hX dL_law_223 rfl ?_
  refine aw_iload_n hX dL_law_224 rfl ?_
  refine aw_iconst hX (3) dL_law_225 (by decide) ?_
  refine aw_iadd hX dL_law_226 ?_
  refine aw_roaldN hX (i + 3) (by decide) (nI_add i 3) (by rw [hLE]; omega) (by rw [hLE]; omega) dL_law_227 ?_
  refine aw_callV0 hX RL rfl (tX9_setColumn _ _ _ hb hr.ws _ _ _) rfl mf_X9_setColumn mi_X9_setColumn ms_X9_setColumn kl_L_23 (by assumption) rfl rfl (by decide) (Nat.le_of_ble_eq_true rfl) dL_law_228 (by decide) (fun v_228 h_228 p_228 => ?_)
  obtain ⟨rfl, hb, sm⟩ := p_228
  have hr := hr.sm sm (by omega)
  obtain ⟨_, _, _, _, y0⟩ := hr.obj
  refine aw_aload_n hX dL_law_231 rfl ?_
  refine aw_aload_n hX dL_law_232 rfl ?_
  refine aw_iload_n hX dL_law_233 rfl ?_
  refine aw_iconst hX (1) dL_law_234 (by decide) ?_
  refine aw_iadd hX dL_law_235 ?_
  refine aw_roaldN hX (i + 1) (by decide) (nI_add i 1) (by rw [hLE]; omega) (by rw [hLE]; omega) dL_law_236 ?_
  refine aw_aload_n hX dL_law_237 rfl ?_
  refine aw_iload_n hX dL_law_238 rfl ?_
  refine aw_iconst hX (2) dL_law_239 (by decide) ?_
  refine aw_iadd hX dL_law_240 ?_
  refine aw_roaldN hX (i + 2) (by decide) (nI_add i 2) (by rw [hLE]; omega) (by rw [hLE]; omega) dL_law_241 ?_
  refine aw_aload_n hX dL_law_242 rfl ?_
  refine aw_iload_n hX dL_law_243 rfl ?_
  refine aw_iconst hX (3) dL_law_244 (by decide) ?_
  refine aw_iadd hX dL_law_245 ?_
  refine aw_roaldN hX (i + 3) (by decide) (nI_add i 3) (by rw [hLE]; omega) (by rw [hLE]; omega) dL_law_246 ?_
  refine aw_callV0 hX RL rfl (tX10_setColumn _ _ _ hr _ _ _) rfl mf_X10_setColumn mi_X10_setColumn ms_X10_setColumn kl_L_27 (by assumption) rfl rfl (by decide) (Nat.le_of_ble_eq_true rfl) dL_law_247 (by decide) (fun v_247 h_247 p_247 => ?_)
  obtain ⟨rfl, ⟨W2, P2, o2, hr⟩, sm⟩ := p_247
  have hb := hb.sm sm (by omega)
  refine aw_icmp_eq hX 907 dL_law_250 (by decide) (fun c_250 => ?_) (fun c_250 => ?_)
  · exact next _ _ _ _ _ hb hr (ok_setColumn hok _ _ _)
  · exact absurd rfl c_250
theorem law_3 (hX : Cx X RL cL_law (some .boolean) 9 352 197 13897 202 post) (hLE : eN X.E 4 = L) (hL : L ≤ 2048) (hi : i + 4 ≤ L) (hc : c < 512) (hb : HB hh 5 B) (hr : HR hh 189 B W P o) (hok : OKB B (200 * c)) (next : ∀ (hh : HP) (B : FV) (W P o : Nat), HB hh 5 B → HR hh 189 B W P o → OKB B (200 * c + 200) → AW X 202 hh 197 13897 907 [some (.ref 4), some (.ref 5), some (.ref 189), some (.int (nI i))] []) : AW X 202 hh 197 13897 255 [some (.ref 4), some (.ref 5), some (.ref 189), some (.int (nI i))] [] := by
  have e0 := hb.1
  obtain ⟨_, _, _, _, y0⟩ := hr.obj
  refine aw_aload_n hX dL_law_255 rfl ?_
  refine aw_aload_n hX dL_law_256 rfl ?_
  refine aw_iload_n hX dL_law_257 rfl ?_
  refine aw_iconst hX (1) dL_law_258 (by decide) ?_
  refine aw_iadd hX dL_law_259 ?_
  refine aw_roaldN hX (i + 1) (by decide) (nI_add i 1) (by rw [hLE]; omega) (by rw [hLE]; omega) dL_law_260 ?_
  refine aw_aload_n hX dL_law_261 rfl ?_
  refine aw_iload_n hX dL_law_262 rfl ?_
  refine aw_iconst hX (2) dL_law_263 (by decide) ?_
  refine aw_iadd hX dL_law_264 ?_
  refine aw_roaldN hX (i + 2) (by decide) (nI_add i 2) (by rw [hLE]; omega) (by rw [hLE]; omega) dL_law_265 ?_
  refine aw_callV0 hX RL rfl (tX9_addMessage _ _ _ hb hr.ws _ _) rfl mf_X9_addMessage mi_X9_addMessage ms_X9_addMessage kl_L_28 (by assumption) rfl rfl (by decide) (Nat.le_of_ble_eq_true rfl) dL_law_266 (by decide) (fun v_266 h_266 p_266 => ?_)
  obtain ⟨rfl, hb, sm⟩ := p_266
  have hr := hr.sm sm (by omega)
  obtain ⟨_, _, _, _, y0⟩ := hr.obj
  refine aw_aload_n hX dL_law_269 rfl ?_
  refine aw_aload_n hX dL_law_270 rfl ?_
  refine aw_iload_n hX dL_law_271 rfl ?_
  refine aw_iconst hX (1) dL_law_272 (by decide) ?_
  refine aw_iadd hX dL_law_273 ?_
  refine aw_roaldN hX (i + 1) (by decide) (nI_add i 1) (by rw [hLE]; omega) (by rw [hLE]; omega) dL_law_274 ?_
  refine aw_aload_n hX dL_law_275 rfl ?_
  refine aw_iload_n hX dL_law_276 rfl ?_
  refine aw_iconst hX (2) dL_law_277 (by decide) ?_
  refine aw_iadd hX dL_law_278 ?_
  refine aw_roaldN hX (i + 2) (by decide) (nI_add i 2) (by rw [hLE]; omega) (by rw [hLE]; omega) dL_law_279 ?_
  refine aw_callV0 hX RL rfl (tX10_addMessage _ _ _ hr _ _) rfl mf_X10_addMessage mi_X10_addMessage ms_X10_addMessage kl_L_31 (by assumption) rfl rfl (by decide) (Nat.le_of_ble_eq_true rfl) dL_law_280 (by decide) (fun v_280 h_280 p_280 => ?_)
  obtain ⟨rfl, ⟨W2, P2, o2, hr⟩, sm⟩ := p_280
  have hb := hb.sm sm (by omega)
  refine aw_icmp_eq hX 907 dL_law_283 (by decide) (fun c_283 => ?_) (fun c_283 => ?_)
  · exact next _ _ _ _ _ hb hr (ok_addMessage hok _ _)
  · exact absurd rfl c_283
theorem law_4 (hX : Cx X RL cL_law (some .boolean) 9 352 197 13897 202 post) (hLE : eN X.E 4 = L) (hL : L ≤ 2048) (hi : i + 4 ≤ L) (hc : c < 512) (hb : HB hh 5 B) (hr : HR hh 189 B W P o) (hok : OKB B (200 * c)) (next : ∀ (hh : HP) (B : FV) (W P o : Nat), HB hh 5 B → HR hh 189 B W P o → OKB B (200 * c + 200) → AW X 202 hh 197 13897 907 [some (.ref 4), some (.ref 5), some (.ref 189), some (.int (nI i))] []) : AW X 202 hh 197 13897 288 [some (.ref 4), some (.ref 5), some (.ref 189), some (.int (nI i))] [] := by
  have e0 := hb.1
  obtain ⟨_, _, _, _, y0⟩ := hr.obj
  refine aw_aload_n hX dL_law_288 rfl ?_
  refine aw_aload_n hX dL_law_289 rfl ?_
  refine aw_iload_n hX dL_law_290 rfl ?_
  refine aw_iconst hX (1) dL_law_291 (by decide) ?_
  refine aw_iadd hX dL_law_292 ?_
  refine aw_roaldN hX (i + 1) (by decide) (nI_add i 1) (by rw [hLE]; omega) (by rw [hLE]; omega) dL_law_293 ?_
  refine aw_callV0 hX RL rfl (tX9_removeMessage _ _ _ hb hr.ws _) rfl mf_X9_removeMessage mi_X9_removeMessage ms_X9_removeMessage kl_L_32 (by assumption) rfl rfl (by decide) (Nat.le_of_ble_eq_true rfl) dL_law_294 (by decide) (fun v_294 h_294 p_294 => ?_)
  obtain ⟨rfl, hb, sm⟩ := p_294
  have hr := hr.sm sm (by omega)
  obtain ⟨_, _, _, _, y0⟩ := hr.obj
  refine aw_aload_n hX dL_law_297 rfl ?_
  refine aw_aload_n hX dL_law_298 rfl ?_
  refine aw_iload_n hX dL_law_299 rfl ?_
  refine aw_iconst hX (1) dL_law_300 (by decide) ?_
  refine aw_iadd hX dL_law_301 ?_
  refine aw_roaldN hX (i + 1) (by decide) (nI_add i 1) (by rw [hLE]; omega) (by rw [hLE]; omega) dL_law_302 ?_
  refine aw_callV0 hX RL rfl (tX10_removeMessage _ _ _ hr _) rfl mf_X10_removeMessage mi_X10_removeMessage ms_X10_removeMessage kl_L_35 (by assumption) rfl rfl (by decide) (Nat.le_of_ble_eq_true rfl) dL_law_303 (by decide) (fun v_303 h_303 p_303 => ?_)
  obtain ⟨rfl, ⟨W2, P2, o2, hr⟩, sm⟩ := p_303
  have hb := hb.sm sm (by omega)
  refine aw_icmp_eq hX 907 dL_law_306 (by decide) (fun c_306 => ?_) (fun c_306 => ?_)
  · exact next _ _ _ _ _ hb hr (ok_removeMessage hok _)
  · exact absurd rfl c_306
theorem law_5 (hX : Cx X RL cL_law (some .boolean) 9 352 197 13897 202 post) (hLE : eN X.E 4 = L) (hL : L ≤ 2048) (hi : i + 4 ≤ L) (hc : c < 512) (hb : HB hh 5 B) (hr : HR hh 189 B W P o) (hok : OKB B (200 * c)) (next : ∀ (hh : HP) (B : FV) (W P o : Nat), HB hh 5 B → HR hh 189 B W P o → OKB B (200 * c + 200) → AW X 202 hh 197 13897 907 [some (.ref 4), some (.ref 5), some (.ref 189), some (.int (nI i))] []) : AW X 202 hh 197 13897 311 [some (.ref 4), some (.ref 5), some (.ref 189), some (.int (nI i))] [] := by
  have e0 := hb.1
  obtain ⟨_, _, _, _, y0⟩ := hr.obj
  refine aw_aload_n hX dL_law_311 rfl ?_
  refine aw_aload_n hX dL_law_312 rfl ?_
  refine aw_iload_n hX dL_law_313 rfl ?_
  refine aw_iconst hX (1) dL_law_314 (by decide) ?_
  refine aw_iadd hX dL_law_315 ?_
  refine aw_roaldN hX (i + 1) (by decide) (nI_add i 1) (by rw [hLE]; omega) (by rw [hLE]; omega) dL_law_316 ?_
  refine aw_callV0 hX RL rfl (tX9_appendCharacter _ _ _ hb hok.2.1 _) rfl mf_X9_appendCharacter mi_X9_appendCharacter ms_X9_appendCharacter kl_L_36 (by assumption) rfl rfl (by decide) (Nat.le_of_ble_eq_true rfl) dL_law_317 (by decide) (fun v_317 h_317 p_317 => ?_)
  obtain ⟨rfl, hb, sm⟩ := p_317
  have hr := hr.sm sm (by omega)
  obtain ⟨_, _, _, _, y0⟩ := hr.obj
  refine aw_aload_n hX dL_law_320 rfl ?_
  refine aw_aload_n hX dL_law_321 rfl ?_
  refine aw_iload_n hX dL_law_322 rfl ?_
  refine aw_iconst hX (1) dL_law_323 (by decide) ?_
  refine aw_iadd hX dL_law_324 ?_
  refine aw_roaldN hX (i + 1) (by decide) (nI_add i 1) (by rw [hLE]; omega) (by rw [hLE]; omega) dL_law_325 ?_
  refine aw_callV0 hX RL rfl (tX10_appendCharacter _ _ _ hr hok.2.1 _) rfl mf_X10_appendCharacter mi_X10_appendCharacter ms_X10_appendCharacter kl_L_39 (by assumption) rfl rfl (by decide) (Nat.le_of_ble_eq_true rfl) dL_law_326 (by decide) (fun v_326 h_326 p_326 => ?_)
  obtain ⟨rfl, ⟨W2, P2, o2, hr⟩, sm⟩ := p_326
  have hb := hb.sm sm (by omega)
  refine aw_icmp_eq hX 907 dL_law_329 (by decide) (fun c_329 => ?_) (fun c_329 => ?_)
  · exact next _ _ _ _ _ hb hr (ok_append hok _)
  · exact absurd rfl c_329
theorem law_6 (hX : Cx X RL cL_law (some .boolean) 9 352 197 13897 202 post) (hLE : eN X.E 4 = L) (hL : L ≤ 2048) (hi : i + 4 ≤ L) (hc : c < 512) (hb : HB hh 5 B) (hr : HR hh 189 B W P o) (hok : OKB B (200 * c)) (next : ∀ (hh : HP) (B : FV) (W P o : Nat), HB hh 5 B → HR hh 189 B W P o → OKB B (200 * c + 200) → AW X 202 hh 197 13897 907 [some (.ref 4), some (.ref 5), some (.ref 189), some (.int (nI i))] []) : AW X 202 hh 197 13897 334 [some (.ref 4), some (.ref 5), some (.ref 189), some (.int (nI i))] [] := by
  have e0 := hb.1
  obtain ⟨_, _, _, _, y0⟩ := hr.obj
  refine aw_aload_n hX dL_law_334 rfl ?_
  refine aw_callV0 hX RL rfl (tX9_clearText _ _ _ hb) rfl mf_X9_clearText mi_X9_clearText ms_X9_clearText kl_L_40 (by assumption) rfl rfl (by decide) (Nat.le_of_ble_eq_true rfl) dL_law_335 (by decide) (fun v_335 h_335 p_335 => ?_)
  obtain ⟨rfl, hb, sm⟩ := p_335
  have hr := hr.sm sm (by omega)
  obtain ⟨_, _, _, _, y0⟩ := hr.obj
  refine aw_aload_n hX dL_law_338 rfl ?_
  refine aw_callV0 hX RL rfl (tX10_clearText _ _ _ hr) rfl mf_X10_clearText mi_X10_clearText ms_X10_clearText kl_L_44 (by assumption) rfl rfl (by decide) (Nat.le_of_ble_eq_true rfl) dL_law_339 (by decide) (fun v_339 h_339 p_339 => ?_)
  obtain ⟨rfl, ⟨W2, P2, o2, hr⟩, sm⟩ := p_339
  have hb := hb.sm sm (by omega)
  refine aw_icmp_eq hX 907 dL_law_342 (by decide) (fun c_342 => ?_) (fun c_342 => ?_)
  · exact next _ _ _ _ _ hb hr (ok_clear hok )
  · exact absurd rfl c_342
theorem law_7 (hX : Cx X RL cL_law (some .boolean) 9 352 197 13897 202 post) (hLE : eN X.E 4 = L) (hL : L ≤ 2048) (hi : i + 4 ≤ L) (hc : c < 512) (hb : HB hh 5 B) (hr : HR hh 189 B W P o) (hok : OKB B (200 * c)) (next : ∀ (hh : HP) (B : FV) (W P o : Nat), HB hh 5 B → HR hh 189 B W P o → OKB B (200 * c + 200) → AW X 202 hh 197 13897 907 [some (.ref 4), some (.ref 5), some (.ref 189), some (.int (nI i))] []) : AW X 202 hh 197 13897 347 [some (.ref 4), some (.ref 5), some (.ref 189), some (.int (nI i))] [] := by
  have e0 := hb.1
  obtain ⟨_, _, _, _, y0⟩ := hr.obj
  refine aw_aload_n hX dL_law_347 rfl ?_
  refine aw_callV0 hX RL rfl (tX9_load _ _ _ hb hr.vw hok.1 hok.2.1) rfl mf_X9_load mi_X9_load ms_X9_load kl_L_45 (by assumption) rfl rfl (by decide) (Nat.le_of_ble_eq_true rfl) dL_law_348 (by decide) (fun v_348 h_348 p_348 => ?_)
  obtain ⟨qa, qb, -, -, rfl, hb, sm⟩ := p_348
  have hr := hr.sm sm (by omega)
  obtain ⟨_, _, _, _, y0⟩ := hr.obj
  refine aw_aload_n hX dL_law_351 rfl ?_
  refine aw_callV0 hX RL rfl (tX10_load _ _ _ hr hok.1 hok.2.1 qa qb) rfl mf_X10_load mi_X10_load ms_X10_load kl_L_48 (by assumption) rfl rfl (by decide) (Nat.le_of_ble_eq_true rfl) dL_law_352 (by decide) (fun v_352 h_352 p_352 => ?_)
  obtain ⟨rfl, ⟨W2, P2, o2, hr⟩, sm⟩ := p_352
  have hb := hb.sm sm (by omega)
  refine aw_icmp_eq hX 907 dL_law_355 (by decide) (fun c_355 => ?_) (fun c_355 => ?_)
  · exact next _ _ _ _ _ hb hr (ok_load hok qa qb )
  · exact absurd rfl c_355
theorem law_8 (hX : Cx X RL cL_law (some .boolean) 9 352 197 13897 202 post) (hLE : eN X.E 4 = L) (hL : L ≤ 2048) (hi : i + 4 ≤ L) (hc : c < 512) (hb : HB hh 5 B) (hr : HR hh 189 B W P o) (hok : OKB B (200 * c)) (next : ∀ (hh : HP) (B : FV) (W P o : Nat), HB hh 5 B → HR hh 189 B W P o → OKB B (200 * c + 200) → AW X 202 hh 197 13897 907 [some (.ref 4), some (.ref 5), some (.ref 189), some (.int (nI i))] []) : AW X 202 hh 197 13897 360 [some (.ref 4), some (.ref 5), some (.ref 189), some (.int (nI i))] [] := by
  have e0 := hb.1
  obtain ⟨_, _, _, _, y0⟩ := hr.obj
  refine aw_aload_n hX dL_law_360 rfl ?_
  refine aw_aload_n hX dL_law_361 rfl ?_
  refine aw_iload_n hX dL_law_362 rfl ?_
  refine aw_iconst hX (1) dL_law_363 (by decide) ?_
  refine aw_iadd hX dL_law_364 ?_
  refine aw_roaldN hX (i + 1) (by decide) (nI_add i 1) (by rw [hLE]; omega) (by rw [hLE]; omega) dL_law_365 ?_
  refine aw_aload_n hX dL_law_366 rfl ?_
  refine aw_iload_n hX dL_law_367 rfl ?_
  refine aw_iconst hX (2) dL_law_368 (by decide) ?_
  refine aw_iadd hX dL_law_369 ?_
  refine aw_roaldN hX (i + 2) (by decide) (nI_add i 2) (by rw [hLE]; omega) (by rw [hLE]; omega) dL_law_370 ?_
  refine aw_callV0 hX RL rfl (tX9_show _ _ _ hb hr.vw _ _) rfl mf_X9_show mi_X9_show ms_X9_show kl_L_49 (by assumption) rfl rfl (by decide) (Nat.le_of_ble_eq_true rfl) dL_law_371 (by decide) (fun v_371 h_371 p_371 => ?_)
  obtain ⟨rfl, hb, sm⟩ := p_371
  have hr := hr.sm sm (by omega)
  obtain ⟨_, _, _, _, y0⟩ := hr.obj
  refine aw_aload_n hX dL_law_374 rfl ?_
  refine aw_aload_n hX dL_law_375 rfl ?_
  refine aw_iload_n hX dL_law_376 rfl ?_
  refine aw_iconst hX (1) dL_law_377 (by decide) ?_
  refine aw_iadd hX dL_law_378 ?_
  refine aw_roaldN hX (i + 1) (by decide) (nI_add i 1) (by rw [hLE]; omega) (by rw [hLE]; omega) dL_law_379 ?_
  refine aw_aload_n hX dL_law_380 rfl ?_
  refine aw_iload_n hX dL_law_381 rfl ?_
  refine aw_iconst hX (2) dL_law_382 (by decide) ?_
  refine aw_iadd hX dL_law_383 ?_
  refine aw_roaldN hX (i + 2) (by decide) (nI_add i 2) (by rw [hLE]; omega) (by rw [hLE]; omega) dL_law_384 ?_
  refine aw_callV0 hX RL rfl (tX10_show _ _ _ hr _ _) rfl mf_X10_show mi_X10_show ms_X10_show kl_L_52 (by assumption) rfl rfl (by decide) (Nat.le_of_ble_eq_true rfl) dL_law_385 (by decide) (fun v_385 h_385 p_385 => ?_)
  obtain ⟨rfl, ⟨W2, P2, o2, hr⟩, sm⟩ := p_385
  have hb := hb.sm sm (by omega)
  refine aw_icmp_eq hX 907 dL_law_388 (by decide) (fun c_388 => ?_) (fun c_388 => ?_)
  · exact next _ _ _ _ _ hb hr (ok_show hok _ _)
  · exact absurd rfl c_388
theorem law_9 (hX : Cx X RL cL_law (some .boolean) 9 352 197 13897 202 post) (hLE : eN X.E 4 = L) (hL : L ≤ 2048) (hi : i + 4 ≤ L) (hc : c < 512) (hb : HB hh 5 B) (hr : HR hh 189 B W P o) (hok : OKB B (200 * c)) (next : ∀ (hh : HP) (B : FV) (W P o : Nat), HB hh 5 B → HR hh 189 B W P o → OKB B (200 * c + 200) → AW X 202 hh 197 13897 907 [some (.ref 4), some (.ref 5), some (.ref 189), some (.int (nI i))] []) : AW X 202 hh 197 13897 393 [some (.ref 4), some (.ref 5), some (.ref 189), some (.int (nI i))] [] := by
  have e0 := hb.1
  obtain ⟨_, _, _, _, y0⟩ := hr.obj
  refine aw_aload_n hX dL_law_393 rfl ?_
  refine aw_callV0 hX RL rfl (tX9_darken _ _ _ hb) rfl mf_X9_darken mi_X9_darken ms_X9_darken kl_L_53 (by assumption) rfl rfl (by decide) (Nat.le_of_ble_eq_true rfl) dL_law_394 (by decide) (fun v_394 h_394 p_394 => ?_)
  obtain ⟨rfl, hb, sm⟩ := p_394
  have hr := hr.sm sm (by omega)
  obtain ⟨_, _, _, _, y0⟩ := hr.obj
  refine aw_aload_n hX dL_law_397 rfl ?_
  refine aw_callV0 hX RL rfl (tX10_darken _ _ _ hr) rfl mf_X10_darken mi_X10_darken ms_X10_darken kl_L_56 (by assumption) rfl rfl (by decide) (Nat.le_of_ble_eq_true rfl) dL_law_398 (by decide) (fun v_398 h_398 p_398 => ?_)
  obtain ⟨rfl, ⟨W2, P2, o2, hr⟩, sm⟩ := p_398
  have hb := hb.sm sm (by omega)
  refine aw_icmp_eq hX 907 dL_law_401 (by decide) (fun c_401 => ?_) (fun c_401 => ?_)
  · exact next _ _ _ _ _ hb hr (ok_darken hok )
  · exact absurd rfl c_401
theorem law_10 (hX : Cx X RL cL_law (some .boolean) 9 352 197 13897 202 post) (hLE : eN X.E 4 = L) (hL : L ≤ 2048) (hi : i + 4 ≤ L) (hc : c < 512) (hb : HB hh 5 B) (hr : HR hh 189 B W P o) (hok : OKB B (200 * c)) (next : ∀ (hh : HP) (B : FV) (W P o : Nat), HB hh 5 B → HR hh 189 B W P o → OKB B (200 * c + 200) → AW X 202 hh 197 13897 907 [some (.ref 4), some (.ref 5), some (.ref 189), some (.int (nI i))] []) : AW X 202 hh 197 13897 406 [some (.ref 4), some (.ref 5), some (.ref 189), some (.int (nI i))] [] := by
  have e0 := hb.1
  obtain ⟨_, _, _, _, y0⟩ := hr.obj
  refine aw_aload_n hX dL_law_406 rfl ?_
  refine aw_aload_n hX dL_law_407 rfl ?_
  refine aw_iload_n hX dL_law_408 rfl ?_
  refine aw_iconst hX (1) dL_law_409 (by decide) ?_
  refine aw_iadd hX dL_law_410 ?_
  refine aw_roaldN hX (i + 1) (by decide) (nI_add i 1) (by rw [hLE]; omega) (by rw [hLE]; omega) dL_law_411 ?_
  refine aw_aload_n hX dL_law_412 rfl ?_
  refine aw_iload_n hX dL_law_413 rfl ?_
  refine aw_iconst hX (2) dL_law_414 (by decide) ?_
  refine aw_iadd hX dL_law_415 ?_
  refine aw_roaldN hX (i + 2) (by decide) (nI_add i 2) (by rw [hLE]; omega) (by rw [hLE]; omega) dL_law_416 ?_
  refine aw_callV0 hX RL rfl (tX9_jam _ _ _ hb _ _) rfl mf_X9_jam mi_X9_jam ms_X9_jam kl_L_57 (by assumption) rfl rfl (by decide) (Nat.le_of_ble_eq_true rfl) dL_law_417 (by decide) (fun v_417 h_417 p_417 => ?_)
  obtain ⟨rfl, hb, sm⟩ := p_417
  have hr := hr.sm sm (by omega)
  obtain ⟨_, _, _, _, y0⟩ := hr.obj
  refine aw_aload_n hX dL_law_420 rfl ?_
  refine aw_aload_n hX dL_law_421 rfl ?_
  refine aw_iload_n hX dL_law_422 rfl ?_
  refine aw_iconst hX (1) dL_law_423 (by decide) ?_
  refine aw_iadd hX dL_law_424 ?_
  refine aw_roaldN hX (i + 1) (by decide) (nI_add i 1) (by rw [hLE]; omega) (by rw [hLE]; omega) dL_law_425 ?_
  refine aw_aload_n hX dL_law_426 rfl ?_
  refine aw_iload_n hX dL_law_427 rfl ?_
  refine aw_iconst hX (2) dL_law_428 (by decide) ?_
  refine aw_iadd hX dL_law_429 ?_
  refine aw_roaldN hX (i + 2) (by decide) (nI_add i 2) (by rw [hLE]; omega) (by rw [hLE]; omega) dL_law_430 ?_
  refine aw_callV0 hX RL rfl (tX10_jam _ _ _ hr _ _) rfl mf_X10_jam mi_X10_jam ms_X10_jam kl_L_60 (by assumption) rfl rfl (by decide) (Nat.le_of_ble_eq_true rfl) dL_law_431 (by decide) (fun v_431 h_431 p_431 => ?_)
  obtain ⟨rfl, ⟨W2, P2, o2, hr⟩, sm⟩ := p_431
  have hb := hb.sm sm (by omega)
  refine aw_icmp_eq hX 907 dL_law_434 (by decide) (fun c_434 => ?_) (fun c_434 => ?_)
  · exact next _ _ _ _ _ hb hr (ok_jam hok _ _)
  · exact absurd rfl c_434
theorem law_11 (hX : Cx X RL cL_law (some .boolean) 9 352 197 13897 202 post) (hLE : eN X.E 4 = L) (hL : L ≤ 2048) (hi : i + 4 ≤ L) (hc : c < 512) (hb : HB hh 5 B) (hr : HR hh 189 B W P o) (hok : OKB B (200 * c)) (next : ∀ (hh : HP) (B : FV) (W P o : Nat), HB hh 5 B → HR hh 189 B W P o → OKB B (200 * c + 200) → AW X 202 hh 197 13897 907 [some (.ref 4), some (.ref 5), some (.ref 189), some (.int (nI i))] []) : AW X 202 hh 197 13897 439 [some (.ref 4), some (.ref 5), some (.ref 189), some (.int (nI i))] [] := by
  have e0 := hb.1
  obtain ⟨_, _, _, _, y0⟩ := hr.obj
  refine aw_aload_n hX dL_law_439 rfl ?_
  refine aw_aload_n hX dL_law_440 rfl ?_
  refine aw_iload_n hX dL_law_441 rfl ?_
  refine aw_iconst hX (1) dL_law_442 (by decide) ?_
  refine aw_iadd hX dL_law_443 ?_
  refine aw_roaldN hX (i + 1) (by decide) (nI_add i 1) (by rw [hLE]; omega) (by rw [hLE]; omega) dL_law_444 ?_
  refine aw_aload_n hX dL_law_445 rfl ?_
  refine aw_iload_n hX dL_law_446 rfl ?_
  refine aw_iconst hX (2) dL_law_447 (by decide) ?_
  refine aw_iadd hX dL_law_448 ?_
  refine aw_roaldN hX (i + 2) (by decide) (nI_add i 2) (by rw [hLE]; omega) (by rw [hLE]; omega) dL_law_449 ?_
  refine aw_callV0 hX RL rfl (tX9_mend _ _ _ hb _ _) rfl mf_X9_mend mi_X9_mend ms_X9_mend kl_L_61 (by assumption) rfl rfl (by decide) (Nat.le_of_ble_eq_true rfl) dL_law_450 (by decide) (fun v_450 h_450 p_450 => ?_)
  obtain ⟨rfl, hb, sm⟩ := p_450
  have hr := hr.sm sm (by omega)
  obtain ⟨_, _, _, _, y0⟩ := hr.obj
  refine aw_aload_n hX dL_law_453 rfl ?_
  refine aw_aload_n hX dL_law_454 rfl ?_
  refine aw_iload_n hX dL_law_455 rfl ?_
  refine aw_iconst hX (1) dL_law_456 (by decide) ?_
  refine aw_iadd hX dL_law_457 ?_
  refine aw_roaldN hX (i + 1) (by decide) (nI_add i 1) (by rw [hLE]; omega) (by rw [hLE]; omega) dL_law_458 ?_
  refine aw_aload_n hX dL_law_459 rfl ?_
  refine aw_iload_n hX dL_law_460 rfl ?_
  refine aw_iconst hX (2) dL_law_461 (by decide) ?_
  refine aw_iadd hX dL_law_462 ?_
  refine aw_roaldN hX (i + 2) (by decide) (nI_add i 2) (by rw [hLE]; omega) (by rw [hLE]; omega) dL_law_463 ?_
  refine aw_callV0 hX RL rfl (tX10_mend _ _ _ hr _ _) rfl mf_X10_mend mi_X10_mend ms_X10_mend kl_L_64 (by assumption) rfl rfl (by decide) (Nat.le_of_ble_eq_true rfl) dL_law_464 (by decide) (fun v_464 h_464 p_464 => ?_)
  obtain ⟨rfl, ⟨W2, P2, o2, hr⟩, sm⟩ := p_464
  have hb := hb.sm sm (by omega)
  refine aw_icmp_eq hX 907 dL_law_467 (by decide) (fun c_467 => ?_) (fun c_467 => ?_)
  · exact next _ _ _ _ _ hb hr (ok_mend hok _ _)
  · exact absurd rfl c_467
theorem law_12 (hX : Cx X RL cL_law (some .boolean) 9 352 197 13897 202 post) (hLE : eN X.E 4 = L) (hL : L ≤ 2048) (hi : i + 4 ≤ L) (hc : c < 512) (hb : HB hh 5 B) (hr : HR hh 189 B W P o) (hok : OKB B (200 * c)) (next : ∀ (hh : HP) (B : FV) (W P o : Nat), HB hh 5 B → HR hh 189 B W P o → OKB B (200 * c + 200) → AW X 202 hh 197 13897 907 [some (.ref 4), some (.ref 5), some (.ref 189), some (.int (nI i))] []) : AW X 202 hh 197 13897 472 [some (.ref 4), some (.ref 5), some (.ref 189), some (.int (nI i))] [] := by
  have e0 := hb.1
  obtain ⟨_, _, _, _, y0⟩ := hr.obj
  refine aw_aload_n hX dL_law_472 rfl ?_
  refine aw_aload_n hX dL_law_473 rfl ?_
  refine aw_iload_n hX dL_law_474 rfl ?_
  refine aw_iconst hX (1) dL_law_475 (by decide) ?_
  refine aw_iadd hX dL_law_476 ?_
  refine aw_roaldN hX (i + 1) (by decide) (nI_add i 1) (by rw [hLE]; omega) (by rw [hLE]; omega) dL_law_477 ?_
  refine aw_callV0 hX RL rfl (tX9_pass _ _ _ hb hr.vw (by have := hok.2.2.1; omega) _) rfl mf_X9_pass mi_X9_pass ms_X9_pass kl_L_65 (by assumption) rfl rfl (by decide) (Nat.le_of_ble_eq_true rfl) dL_law_478 (by decide) (fun v_478 h_478 p_478 => ?_)
  obtain ⟨rfl, hb, sm⟩ := p_478
  have hr := hr.sm sm (by omega)
  obtain ⟨_, _, _, _, y0⟩ := hr.obj
  refine aw_aload_n hX dL_law_481 rfl ?_
  refine aw_aload_n hX dL_law_482 rfl ?_
  refine aw_iload_n hX dL_law_483 rfl ?_
  refine aw_iconst hX (1) dL_law_484 (by decide) ?_
  refine aw_iadd hX dL_law_485 ?_
  refine aw_roaldN hX (i + 1) (by decide) (nI_add i 1) (by rw [hLE]; omega) (by rw [hLE]; omega) dL_law_486 ?_
  refine aw_callV0 hX RL rfl (tX10_pass _ _ _ hr _) rfl mf_X10_pass mi_X10_pass ms_X10_pass kl_L_68 (by assumption) rfl rfl (by decide) (Nat.le_of_ble_eq_true rfl) dL_law_487 (by decide) (fun v_487 h_487 p_487 => ?_)
  obtain ⟨rfl, ⟨W2, P2, o2, hr⟩, sm⟩ := p_487
  have hb := hb.sm sm (by omega)
  refine aw_icmp_eq hX 907 dL_law_490 (by decide) (fun c_490 => ?_) (fun c_490 => ?_)
  · exact next _ _ _ _ _ hb hr (ok_pass hok _)
  · exact absurd rfl c_490
theorem law_13 (hX : Cx X RL cL_law (some .boolean) 9 352 197 13897 202 post) (hLE : eN X.E 4 = L) (hL : L ≤ 2048) (hi : i + 4 ≤ L) (hc : c < 512) (hb : HB hh 5 B) (hr : HR hh 189 B W P o) (hok : OKB B (200 * c)) (next : ∀ (hh : HP) (B : FV) (W P o : Nat), HB hh 5 B → HR hh 189 B W P o → OKB B (200 * c + 200) → AW X 202 hh 197 13897 907 [some (.ref 4), some (.ref 5), some (.ref 189), some (.int (nI i))] []) : AW X 202 hh 197 13897 495 [some (.ref 4), some (.ref 5), some (.ref 189), some (.int (nI i))] [] := by
  have e0 := hb.1
  obtain ⟨_, _, _, _, y0⟩ := hr.obj
  refine aw_aload_n hX dL_law_495 rfl ?_
  refine aw_aload_n hX dL_law_496 rfl ?_
  refine aw_iload_n hX dL_law_497 rfl ?_
  refine aw_iconst hX (1) dL_law_498 (by decide) ?_
  refine aw_iadd hX dL_law_499 ?_
  refine aw_roaldN hX (i + 1) (by decide) (nI_add i 1) (by rw [hLE]; omega) (by rw [hLE]; omega) dL_law_500 ?_
  refine aw_callVp hX RL rfl (tX9_count _ _ _ hb _) rfl mf_X9_count mi_X9_count ms_X9_count kl_L_69 (by assumption) rfl rfl (by decide) (Nat.le_of_ble_eq_true rfl) dL_law_501 (by decide) ?_
  refine aw_aload_n hX dL_law_504 rfl ?_
  refine aw_aload_n hX dL_law_505 rfl ?_
  refine aw_iload_n hX dL_law_506 rfl ?_
  refine aw_iconst hX (1) dL_law_507 (by decide) ?_
  refine aw_iadd hX dL_law_508 ?_
  refine aw_roaldN hX (i + 1) (by decide) (nI_add i 1) (by rw [hLE]; omega) (by rw [hLE]; omega) dL_law_509 ?_
  refine aw_callV0 hX RL rfl (tX10_count _ _ _ hr _) rfl mf_X10_count mi_X10_count ms_X10_count kl_L_72 (by assumption) rfl rfl (by decide) (Nat.le_of_ble_eq_true rfl) dL_law_510 (by decide) (fun v_510 h_510 p_510 => ?_)
  obtain ⟨rfl, hr, sm⟩ := p_510
  have hb := hb.sm sm (by omega)
  refine aw_icmp_eq hX 907 dL_law_513 (by decide) (fun c_513 => ?_) (fun c_513 => ?_)
  · exact next _ _ _ _ _ hb hr (hok.mono (by omega))
  · exact absurd rfl c_513
theorem law_14 (hX : Cx X RL cL_law (some .boolean) 9 352 197 13897 202 post) (hLE : eN X.E 4 = L) (hL : L ≤ 2048) (hi : i + 4 ≤ L) (hc : c < 512) (hb : HB hh 5 B) (hr : HR hh 189 B W P o) (hok : OKB B (200 * c)) (next : ∀ (hh : HP) (B : FV) (W P o : Nat), HB hh 5 B → HR hh 189 B W P o → OKB B (200 * c + 200) → AW X 202 hh 197 13897 907 [some (.ref 4), some (.ref 5), some (.ref 189), some (.int (nI i))] []) : AW X 202 hh 197 13897 518 [some (.ref 4), some (.ref 5), some (.ref 189), some (.int (nI i))] [] := by
  have e0 := hb.1
  obtain ⟨_, _, _, _, y0⟩ := hr.obj
  refine aw_aload_n hX dL_law_518 rfl ?_
  refine aw_aload_n hX dL_law_519 rfl ?_
  refine aw_iload_n hX dL_law_520 rfl ?_
  refine aw_iconst hX (1) dL_law_521 (by decide) ?_
  refine aw_iadd hX dL_law_522 ?_
  refine aw_roaldN hX (i + 1) (by decide) (nI_add i 1) (by rw [hLE]; omega) (by rw [hLE]; omega) dL_law_523 ?_
  refine aw_aload_n hX dL_law_524 rfl ?_
  refine aw_iload_n hX dL_law_525 rfl ?_
  refine aw_iconst hX (2) dL_law_526 (by decide) ?_
  refine aw_iadd hX dL_law_527 ?_
  refine aw_roaldN hX (i + 2) (by decide) (nI_add i 2) (by rw [hLE]; omega) (by rw [hLE]; omega) dL_law_528 ?_
  refine aw_callVp hX RL rfl (tX9_column _ _ _ hb _ _) rfl mf_X9_column mi_X9_column ms_X9_column kl_L_73 (by assumption) rfl rfl (by decide) (Nat.le_of_ble_eq_true rfl) dL_law_529 (by decide) ?_
  refine aw_aload_n hX dL_law_532 rfl ?_
  refine aw_aload_n hX dL_law_533 rfl ?_
  refine aw_iload_n hX dL_law_534 rfl ?_
  refine aw_iconst hX (1) dL_law_535 (by decide) ?_
  refine aw_iadd hX dL_law_536 ?_
  refine aw_roaldN hX (i + 1) (by decide) (nI_add i 1) (by rw [hLE]; omega) (by rw [hLE]; omega) dL_law_537 ?_
  refine aw_aload_n hX dL_law_538 rfl ?_
  refine aw_iload_n hX dL_law_539 rfl ?_
  refine aw_iconst hX (2) dL_law_540 (by decide) ?_
  refine aw_iadd hX dL_law_541 ?_
  refine aw_roaldN hX (i + 2) (by decide) (nI_add i 2) (by rw [hLE]; omega) (by rw [hLE]; omega) dL_law_542 ?_
  refine aw_callV0 hX RL rfl (tX10_column _ _ _ hr _ _) rfl mf_X10_column mi_X10_column ms_X10_column kl_L_76 (by assumption) rfl rfl (by decide) (Nat.le_of_ble_eq_true rfl) dL_law_543 (by decide) (fun v_543 h_543 p_543 => ?_)
  obtain ⟨rfl, hr, sm⟩ := p_543
  have hb := hb.sm sm (by omega)
  refine aw_icmp_eq hX 907 dL_law_546 (by decide) (fun c_546 => ?_) (fun c_546 => ?_)
  · exact next _ _ _ _ _ hb hr (hok.mono (by omega))
  · exact absurd rfl c_546
theorem law_15 (hX : Cx X RL cL_law (some .boolean) 9 352 197 13897 202 post) (hLE : eN X.E 4 = L) (hL : L ≤ 2048) (hi : i + 4 ≤ L) (hc : c < 512) (hb : HB hh 5 B) (hr : HR hh 189 B W P o) (hok : OKB B (200 * c)) (next : ∀ (hh : HP) (B : FV) (W P o : Nat), HB hh 5 B → HR hh 189 B W P o → OKB B (200 * c + 200) → AW X 202 hh 197 13897 907 [some (.ref 4), some (.ref 5), some (.ref 189), some (.int (nI i))] []) : AW X 202 hh 197 13897 551 [some (.ref 4), some (.ref 5), some (.ref 189), some (.int (nI i))] [] := by
  have e0 := hb.1
  obtain ⟨_, _, _, _, y0⟩ := hr.obj
  refine aw_aload_n hX dL_law_551 rfl ?_
  refine aw_aload_n hX dL_law_552 rfl ?_
  refine aw_iload_n hX dL_law_553 rfl ?_
  refine aw_iconst hX (1) dL_law_554 (by decide) ?_
  refine aw_iadd hX dL_law_555 ?_
  refine aw_roaldN hX (i + 1) (by decide) (nI_add i 1) (by rw [hLE]; omega) (by rw [hLE]; omega) dL_law_556 ?_
  refine aw_aload_n hX dL_law_557 rfl ?_
  refine aw_iload_n hX dL_law_558 rfl ?_
  refine aw_iconst hX (2) dL_law_559 (by decide) ?_
  refine aw_iadd hX dL_law_560 ?_
  refine aw_roaldN hX (i + 2) (by decide) (nI_add i 2) (by rw [hLE]; omega) (by rw [hLE]; omega) dL_law_561 ?_
  refine aw_callVp hX RL rfl (tX9_flips _ _ _ hb _ _) rfl mf_X9_flips mi_X9_flips ms_X9_flips kl_L_77 (by assumption) rfl rfl (by decide) (Nat.le_of_ble_eq_true rfl) dL_law_562 (by decide) ?_
  refine aw_aload_n hX dL_law_565 rfl ?_
  refine aw_aload_n hX dL_law_566 rfl ?_
  refine aw_iload_n hX dL_law_567 rfl ?_
  refine aw_iconst hX (1) dL_law_568 (by decide) ?_
  refine aw_iadd hX dL_law_569 ?_
  refine aw_roaldN hX (i + 1) (by decide) (nI_add i 1) (by rw [hLE]; omega) (by rw [hLE]; omega) dL_law_570 ?_
  refine aw_aload_n hX dL_law_571 rfl ?_
  refine aw_iload_n hX dL_law_572 rfl ?_
  refine aw_iconst hX (2) dL_law_573 (by decide) ?_
  refine aw_iadd hX dL_law_574 ?_
  refine aw_roaldN hX (i + 2) (by decide) (nI_add i 2) (by rw [hLE]; omega) (by rw [hLE]; omega) dL_law_575 ?_
  refine aw_callV0 hX RL rfl (tX10_flips _ _ _ hr _ _) rfl mf_X10_flips mi_X10_flips ms_X10_flips kl_L_80 (by assumption) rfl rfl (by decide) (Nat.le_of_ble_eq_true rfl) dL_law_576 (by decide) (fun v_576 h_576 p_576 => ?_)
  obtain ⟨rfl, hr, sm⟩ := p_576
  have hb := hb.sm sm (by omega)
  refine aw_icmp_eq hX 907 dL_law_579 (by decide) (fun c_579 => ?_) (fun c_579 => ?_)
  · exact next _ _ _ _ _ hb hr (hok.mono (by omega))
  · exact absurd rfl c_579
theorem law_16 (hX : Cx X RL cL_law (some .boolean) 9 352 197 13897 202 post) (hLE : eN X.E 4 = L) (hL : L ≤ 2048) (hi : i + 4 ≤ L) (hc : c < 512) (hb : HB hh 5 B) (hr : HR hh 189 B W P o) (hok : OKB B (200 * c)) (next : ∀ (hh : HP) (B : FV) (W P o : Nat), HB hh 5 B → HR hh 189 B W P o → OKB B (200 * c + 200) → AW X 202 hh 197 13897 907 [some (.ref 4), some (.ref 5), some (.ref 189), some (.int (nI i))] []) : AW X 202 hh 197 13897 584 [some (.ref 4), some (.ref 5), some (.ref 189), some (.int (nI i))] [] := by
  have e0 := hb.1
  obtain ⟨_, _, _, _, y0⟩ := hr.obj
  refine aw_aload_n hX dL_law_584 rfl ?_
  refine aw_aload_n hX dL_law_585 rfl ?_
  refine aw_iload_n hX dL_law_586 rfl ?_
  refine aw_iconst hX (1) dL_law_587 (by decide) ?_
  refine aw_iadd hX dL_law_588 ?_
  refine aw_roaldN hX (i + 1) (by decide) (nI_add i 1) (by rw [hLE]; omega) (by rw [hLE]; omega) dL_law_589 ?_
  refine aw_aload_n hX dL_law_590 rfl ?_
  refine aw_iload_n hX dL_law_591 rfl ?_
  refine aw_iconst hX (2) dL_law_592 (by decide) ?_
  refine aw_iadd hX dL_law_593 ?_
  refine aw_roaldN hX (i + 2) (by decide) (nI_add i 2) (by rw [hLE]; omega) (by rw [hLE]; omega) dL_law_594 ?_
  refine aw_callVp hX RL rfl (tX9_letter _ _ _ hb hr.ws _ _) rfl mf_X9_letter mi_X9_letter ms_X9_letter kl_L_81 (by assumption) rfl rfl (by decide) (Nat.le_of_ble_eq_true rfl) dL_law_595 (by decide) ?_
  refine aw_aload_n hX dL_law_598 rfl ?_
  refine aw_aload_n hX dL_law_599 rfl ?_
  refine aw_iload_n hX dL_law_600 rfl ?_
  refine aw_iconst hX (1) dL_law_601 (by decide) ?_
  refine aw_iadd hX dL_law_602 ?_
  refine aw_roaldN hX (i + 1) (by decide) (nI_add i 1) (by rw [hLE]; omega) (by rw [hLE]; omega) dL_law_603 ?_
  refine aw_aload_n hX dL_law_604 rfl ?_
  refine aw_iload_n hX dL_law_605 rfl ?_
  refine aw_iconst hX (2) dL_law_606 (by decide) ?_
  refine aw_iadd hX dL_law_607 ?_
  refine aw_roaldN hX (i + 2) (by decide) (nI_add i 2) (by rw [hLE]; omega) (by rw [hLE]; omega) dL_law_608 ?_
  refine aw_callV0 hX RL rfl (tX10_letter _ _ _ hr _ _) rfl mf_X10_letter mi_X10_letter ms_X10_letter kl_L_84 (by assumption) rfl rfl (by decide) (Nat.le_of_ble_eq_true rfl) dL_law_609 (by decide) (fun v_609 h_609 p_609 => ?_)
  obtain ⟨rfl, hr, sm⟩ := p_609
  have hb := hb.sm sm (by omega)
  refine aw_icmp_eq hX 907 dL_law_612 (by decide) (fun c_612 => ?_) (fun c_612 => ?_)
  · exact next _ _ _ _ _ hb hr (hok.mono (by omega))
  · exact absurd rfl c_612
theorem law_17 (hX : Cx X RL cL_law (some .boolean) 9 352 197 13897 202 post) (hLE : eN X.E 4 = L) (hL : L ≤ 2048) (hi : i + 4 ≤ L) (hc : c < 512) (hb : HB hh 5 B) (hr : HR hh 189 B W P o) (hok : OKB B (200 * c)) (next : ∀ (hh : HP) (B : FV) (W P o : Nat), HB hh 5 B → HR hh 189 B W P o → OKB B (200 * c + 200) → AW X 202 hh 197 13897 907 [some (.ref 4), some (.ref 5), some (.ref 189), some (.int (nI i))] []) : AW X 202 hh 197 13897 617 [some (.ref 4), some (.ref 5), some (.ref 189), some (.int (nI i))] [] := by
  have e0 := hb.1
  obtain ⟨_, _, _, _, y0⟩ := hr.obj
  refine aw_aload_n hX dL_law_617 rfl ?_
  refine aw_aload_n hX dL_law_618 rfl ?_
  refine aw_iload_n hX dL_law_619 rfl ?_
  refine aw_iconst hX (1) dL_law_620 (by decide) ?_
  refine aw_iadd hX dL_law_621 ?_
  refine aw_roaldN hX (i + 1) (by decide) (nI_add i 1) (by rw [hLE]; omega) (by rw [hLE]; omega) dL_law_622 ?_
  refine aw_aload_n hX dL_law_623 rfl ?_
  refine aw_iload_n hX dL_law_624 rfl ?_
  refine aw_iconst hX (2) dL_law_625 (by decide) ?_
  refine aw_iadd hX dL_law_626 ?_
  refine aw_roaldN hX (i + 2) (by decide) (nI_add i 2) (by rw [hLE]; omega) (by rw [hLE]; omega) dL_law_627 ?_
  refine aw_callVp hX RL rfl (tX9_message _ _ _ hb hr.ws _ _) rfl mf_X9_message mi_X9_message ms_X9_message kl_L_85 (by assumption) rfl rfl (by decide) (Nat.le_of_ble_eq_true rfl) dL_law_628 (by decide) ?_
  refine aw_aload_n hX dL_law_631 rfl ?_
  refine aw_aload_n hX dL_law_632 rfl ?_
  refine aw_iload_n hX dL_law_633 rfl ?_
  refine aw_iconst hX (1) dL_law_634 (by decide) ?_
  refine aw_iadd hX dL_law_635 ?_
  refine aw_roaldN hX (i + 1) (by decide) (nI_add i 1) (by rw [hLE]; omega) (by rw [hLE]; omega) dL_law_636 ?_
  refine aw_aload_n hX dL_law_637 rfl ?_
  refine aw_iload_n hX dL_law_638 rfl ?_
  refine aw_iconst hX (2) dL_law_639 (by decide) ?_
  refine aw_iadd hX dL_law_640 ?_
  refine aw_roaldN hX (i + 2) (by decide) (nI_add i 2) (by rw [hLE]; omega) (by rw [hLE]; omega) dL_law_641 ?_
  refine aw_callV0 hX RL rfl (tX10_message _ _ _ hr _ _) rfl mf_X10_message mi_X10_message ms_X10_message kl_L_88 (by assumption) rfl rfl (by decide) (Nat.le_of_ble_eq_true rfl) dL_law_642 (by decide) (fun v_642 h_642 p_642 => ?_)
  obtain ⟨rfl, hr, sm⟩ := p_642
  have hb := hb.sm sm (by omega)
  refine aw_icmp_eq hX 907 dL_law_645 (by decide) (fun c_645 => ?_) (fun c_645 => ?_)
  · exact next _ _ _ _ _ hb hr (hok.mono (by omega))
  · exact absurd rfl c_645
theorem law_18 (hX : Cx X RL cL_law (some .boolean) 9 352 197 13897 202 post) (hLE : eN X.E 4 = L) (hL : L ≤ 2048) (hi : i + 4 ≤ L) (hc : c < 512) (hb : HB hh 5 B) (hr : HR hh 189 B W P o) (hok : OKB B (200 * c)) (next : ∀ (hh : HP) (B : FV) (W P o : Nat), HB hh 5 B → HR hh 189 B W P o → OKB B (200 * c + 200) → AW X 202 hh 197 13897 907 [some (.ref 4), some (.ref 5), some (.ref 189), some (.int (nI i))] []) : AW X 202 hh 197 13897 650 [some (.ref 4), some (.ref 5), some (.ref 189), some (.int (nI i))] [] := by
  have e0 := hb.1
  obtain ⟨_, _, _, _, y0⟩ := hr.obj
  refine aw_aload_n hX dL_law_650 rfl ?_
  refine aw_aload_n hX dL_law_651 rfl ?_
  refine aw_iload_n hX dL_law_652 rfl ?_
  refine aw_iconst hX (1) dL_law_653 (by decide) ?_
  refine aw_iadd hX dL_law_654 ?_
  refine aw_roaldN hX (i + 1) (by decide) (nI_add i 1) (by rw [hLE]; omega) (by rw [hLE]; omega) dL_law_655 ?_
  refine aw_callVp hX RL rfl (tX9_strip _ _ _ hb hr.ws _) rfl mf_X9_strip mi_X9_strip ms_X9_strip kl_L_89 (by assumption) rfl rfl (by decide) (Nat.le_of_ble_eq_true rfl) dL_law_656 (by decide) ?_
  refine aw_aload_n hX dL_law_659 rfl ?_
  refine aw_aload_n hX dL_law_660 rfl ?_
  refine aw_iload_n hX dL_law_661 rfl ?_
  refine aw_iconst hX (1) dL_law_662 (by decide) ?_
  refine aw_iadd hX dL_law_663 ?_
  refine aw_roaldN hX (i + 1) (by decide) (nI_add i 1) (by rw [hLE]; omega) (by rw [hLE]; omega) dL_law_664 ?_
  refine aw_callV0 hX RL rfl (tX10_strip _ _ _ hr _) rfl mf_X10_strip mi_X10_strip ms_X10_strip kl_L_92 (by assumption) rfl rfl (by decide) (Nat.le_of_ble_eq_true rfl) dL_law_665 (by decide) (fun v_665 h_665 p_665 => ?_)
  obtain ⟨rfl, hr, sm⟩ := p_665
  have hb := hb.sm sm (by omega)
  refine aw_icmp_eq hX 907 dL_law_668 (by decide) (fun c_668 => ?_) (fun c_668 => ?_)
  · exact next _ _ _ _ _ hb hr (hok.mono (by omega))
  · exact absurd rfl c_668
theorem law_19 (hX : Cx X RL cL_law (some .boolean) 9 352 197 13897 202 post) (hLE : eN X.E 4 = L) (hL : L ≤ 2048) (hi : i + 4 ≤ L) (hc : c < 512) (hb : HB hh 5 B) (hr : HR hh 189 B W P o) (hok : OKB B (200 * c)) (next : ∀ (hh : HP) (B : FV) (W P o : Nat), HB hh 5 B → HR hh 189 B W P o → OKB B (200 * c + 200) → AW X 202 hh 197 13897 907 [some (.ref 4), some (.ref 5), some (.ref 189), some (.int (nI i))] []) : AW X 202 hh 197 13897 673 [some (.ref 4), some (.ref 5), some (.ref 189), some (.int (nI i))] [] := by
  have e0 := hb.1
  obtain ⟨_, _, _, _, y0⟩ := hr.obj
  refine aw_aload_n hX dL_law_673 rfl ?_
  refine aw_aload_n hX dL_law_674 rfl ?_
  refine aw_iload_n hX dL_law_675 rfl ?_
  refine aw_iconst hX (1) dL_law_676 (by decide) ?_
  refine aw_iadd hX dL_law_677 ?_
  refine aw_roaldN hX (i + 1) (by decide) (nI_add i 1) (by rw [hLE]; omega) (by rw [hLE]; omega) dL_law_678 ?_
  refine aw_aload_n hX dL_law_679 rfl ?_
  refine aw_iload_n hX dL_law_680 rfl ?_
  refine aw_iconst hX (2) dL_law_681 (by decide) ?_
  refine aw_iadd hX dL_law_682 ?_
  refine aw_roaldN hX (i + 2) (by decide) (nI_add i 2) (by rw [hLE]; omega) (by rw [hLE]; omega) dL_law_683 ?_
  refine aw_aload_n hX dL_law_684 rfl ?_
  refine aw_iload_n hX dL_law_685 rfl ?_
  refine aw_iconst hX (3) dL_law_686 (by decide) ?_
  refine aw_iadd hX dL_law_687 ?_
  refine aw_roaldN hX (i + 3) (by decide) (nI_add i 3) (by rw [hLE]; omega) (by rw [hLE]; omega) dL_law_688 ?_
  refine aw_callV0 hX RL rfl (tX9_picture _ _ _ hb hr.vw _ _ _) rfl mf_X9_picture mi_X9_picture ms_X9_picture kl_L_93 (by assumption) rfl rfl (by decide) (Nat.le_of_ble_eq_true rfl) dL_law_689 (by decide) (fun v_689 h_689 p_689 => ?_)
  obtain ⟨rfl, hb, sm⟩ := p_689
  have hr := hr.sm sm (by omega)
  obtain ⟨_, _, _, _, y0⟩ := hr.obj
  refine aw_aload_n hX dL_law_692 rfl ?_
  refine aw_aload_n hX dL_law_693 rfl ?_
  refine aw_iload_n hX dL_law_694 rfl ?_
  refine aw_iconst hX (1) dL_law_695 (by decide) ?_
  refine aw_iadd hX dL_law_696 ?_
  refine aw_roaldN hX (i + 1) (by decide) (nI_add i 1) (by rw [hLE]; omega) (by rw [hLE]; omega) dL_law_697 ?_
  refine aw_aload_n hX dL_law_698 rfl ?_
  refine aw_iload_n hX dL_law_699 rfl ?_
  refine aw_iconst hX (2) dL_law_700 (by decide) ?_
  refine aw_iadd hX dL_law_701 ?_
  refine aw_roaldN hX (i + 2) (by decide) (nI_add i 2) (by rw [hLE]; omega) (by rw [hLE]; omega) dL_law_702 ?_
  refine aw_aload_n hX dL_law_703 rfl ?_
  refine aw_iload_n hX dL_law_704 rfl ?_
  refine aw_iconst hX (3) dL_law_705 (by decide) ?_
  refine aw_iadd hX dL_law_706 ?_
  refine aw_roaldN hX (i + 3) (by decide) (nI_add i 3) (by rw [hLE]; omega) (by rw [hLE]; omega) dL_law_707 ?_
  refine aw_callV0 hX RL rfl (tX10_picture _ _ _ hr _ _ _) rfl mf_X10_picture mi_X10_picture ms_X10_picture kl_L_96 (by assumption) rfl rfl (by decide) (Nat.le_of_ble_eq_true rfl) dL_law_708 (by decide) (fun v_708 h_708 p_708 => ?_)
  obtain ⟨rfl, hr, sm⟩ := p_708
  have hb := hb.sm sm (by omega)
  refine aw_icmp_eq hX 907 dL_law_711 (by decide) (fun c_711 => ?_) (fun c_711 => ?_)
  · exact next _ _ _ _ _ hb hr (hok.mono (by omega))
  · exact absurd rfl c_711
theorem law_20 (hX : Cx X RL cL_law (some .boolean) 9 352 197 13897 202 post) (hLE : eN X.E 4 = L) (hL : L ≤ 2048) (hi : i + 4 ≤ L) (hc : c < 512) (hb : HB hh 5 B) (hr : HR hh 189 B W P o) (hok : OKB B (200 * c)) (next : ∀ (hh : HP) (B : FV) (W P o : Nat), HB hh 5 B → HR hh 189 B W P o → OKB B (200 * c + 200) → AW X 202 hh 197 13897 907 [some (.ref 4), some (.ref 5), some (.ref 189), some (.int (nI i))] []) : AW X 202 hh 197 13897 716 [some (.ref 4), some (.ref 5), some (.ref 189), some (.int (nI i))] [] := by
  have e0 := hb.1
  obtain ⟨_, _, _, _, y0⟩ := hr.obj
  refine aw_aload_n hX dL_law_716 rfl ?_
  refine aw_aload_n hX dL_law_717 rfl ?_
  refine aw_iload_n hX dL_law_718 rfl ?_
  refine aw_iconst hX (1) dL_law_719 (by decide) ?_
  refine aw_iadd hX dL_law_720 ?_
  refine aw_roaldN hX (i + 1) (by decide) (nI_add i 1) (by rw [hLE]; omega) (by rw [hLE]; omega) dL_law_721 ?_
  refine aw_callVp hX RL rfl (tX9_power _ _ _ hb (by have := hok.2.2.1; omega) _) rfl mf_X9_power mi_X9_power ms_X9_power kl_L_97 (by assumption) rfl rfl (by decide) (Nat.le_of_ble_eq_true rfl) dL_law_722 (by decide) ?_
  refine aw_aload_n hX dL_law_725 rfl ?_
  refine aw_aload_n hX dL_law_726 rfl ?_
  refine aw_iload_n hX dL_law_727 rfl ?_
  refine aw_iconst hX (1) dL_law_728 (by decide) ?_
  refine aw_iadd hX dL_law_729 ?_
  refine aw_roaldN hX (i + 1) (by decide) (nI_add i 1) (by rw [hLE]; omega) (by rw [hLE]; omega) dL_law_730 ?_
  refine aw_callV0 hX RL rfl (tX10_power _ _ _ hr (by have := hok.2.2.1; omega) _) rfl mf_X10_power mi_X10_power ms_X10_power kl_L_100 (by assumption) rfl rfl (by decide) (Nat.le_of_ble_eq_true rfl) dL_law_731 (by decide) (fun v_731 h_731 p_731 => ?_)
  obtain ⟨rfl, hr, sm⟩ := p_731
  have hb := hb.sm sm (by omega)
  refine aw_icmp_eq hX 907 dL_law_734 (by decide) (fun c_734 => ?_) (fun c_734 => ?_)
  · exact next _ _ _ _ _ hb hr (hok.mono (by omega))
  · exact absurd rfl c_734
theorem law_21 (hX : Cx X RL cL_law (some .boolean) 9 352 197 13897 202 post) (hLE : eN X.E 4 = L) (hL : L ≤ 2048) (hi : i + 4 ≤ L) (hc : c < 512) (hb : HB hh 5 B) (hr : HR hh 189 B W P o) (hok : OKB B (200 * c)) (next : ∀ (hh : HP) (B : FV) (W P o : Nat), HB hh 5 B → HR hh 189 B W P o → OKB B (200 * c + 200) → AW X 202 hh 197 13897 907 [some (.ref 4), some (.ref 5), some (.ref 189), some (.int (nI i))] []) : AW X 202 hh 197 13897 739 [some (.ref 4), some (.ref 5), some (.ref 189), some (.int (nI i))] [] := by
  have e0 := hb.1
  obtain ⟨_, _, _, _, y0⟩ := hr.obj
  refine aw_aload_n hX dL_law_739 rfl ?_
  refine aw_aload_n hX dL_law_740 rfl ?_
  refine aw_iload_n hX dL_law_741 rfl ?_
  refine aw_iconst hX (1) dL_law_742 (by decide) ?_
  refine aw_iadd hX dL_law_743 ?_
  refine aw_roaldN hX (i + 1) (by decide) (nI_add i 1) (by rw [hLE]; omega) (by rw [hLE]; omega) dL_law_744 ?_
  refine aw_callV0 hX RL rfl (tX9_bestShift _ _ _ hb hr.vw _) rfl mf_X9_bestShift mi_X9_bestShift ms_X9_bestShift kl_L_101 (by assumption) rfl rfl (by decide) (Nat.le_of_ble_eq_true rfl) dL_law_745 (by decide) (fun v_745 h_745 p_745 => ?_)
  obtain ⟨rfl, hb, sm⟩ := p_745
  have hr := hr.sm sm (by omega)
  obtain ⟨_, _, _, _, y0⟩ := hr.obj
  refine aw_aload_n hX dL_law_748 rfl ?_
  refine aw_aload_n hX dL_law_749 rfl ?_
  refine aw_iload_n hX dL_law_750 rfl ?_
  refine aw_iconst hX (1) dL_law_751 (by decide) ?_
  refine aw_iadd hX dL_law_752 ?_
  refine aw_roaldN hX (i + 1) (by decide) (nI_add i 1) (by rw [hLE]; omega) (by rw [hLE]; omega) dL_law_753 ?_
  refine aw_callV0 hX RL rfl (tX10_bestShift _ _ _ hr _) rfl mf_X10_bestShift mi_X10_bestShift ms_X10_bestShift kl_L_104 (by assumption) rfl rfl (by decide) (Nat.le_of_ble_eq_true rfl) dL_law_754 (by decide) (fun v_754 h_754 p_754 => ?_)
  obtain ⟨rfl, hr, sm⟩ := p_754
  have hb := hb.sm sm (by omega)
  refine aw_icmp_eq hX 907 dL_law_757 (by decide) (fun c_757 => ?_) (fun c_757 => ?_)
  · exact next _ _ _ _ _ hb hr (hok.mono (by omega))
  · exact absurd rfl c_757
theorem law_22 (hX : Cx X RL cL_law (some .boolean) 9 352 197 13897 202 post) (hLE : eN X.E 4 = L) (hL : L ≤ 2048) (hi : i + 4 ≤ L) (hc : c < 512) (hb : HB hh 5 B) (hr : HR hh 189 B W P o) (hok : OKB B (200 * c)) (next : ∀ (hh : HP) (B : FV) (W P o : Nat), HB hh 5 B → HR hh 189 B W P o → OKB B (200 * c + 200) → AW X 202 hh 197 13897 907 [some (.ref 4), some (.ref 5), some (.ref 189), some (.int (nI i))] []) : AW X 202 hh 197 13897 762 [some (.ref 4), some (.ref 5), some (.ref 189), some (.int (nI i))] [] := by
  have e0 := hb.1
  obtain ⟨_, _, _, _, y0⟩ := hr.obj
  refine aw_aload_n hX dL_law_762 rfl ?_
  refine aw_aload_n hX dL_law_763 rfl ?_
  refine aw_iload_n hX dL_law_764 rfl ?_
  refine aw_iconst hX (1) dL_law_765 (by decide) ?_
  refine aw_iadd hX dL_law_766 ?_
  refine aw_roaldN hX (i + 1) (by decide) (nI_add i 1) (by rw [hLE]; omega) (by rw [hLE]; omega) dL_law_767 ?_
  refine aw_aload_n hX dL_law_768 rfl ?_
  refine aw_iload_n hX dL_law_769 rfl ?_
  refine aw_iconst hX (2) dL_law_770 (by decide) ?_
  refine aw_iadd hX dL_law_771 ?_
  refine aw_roaldN hX (i + 2) (by decide) (nI_add i 2) (by rw [hLE]; omega) (by rw [hLE]; omega) dL_law_772 ?_
  refine aw_callV0 hX RL rfl (tX9_due _ _ _ hb hr.vw _ _) rfl mf_X9_due mi_X9_due ms_X9_due kl_L_105 (by assumption) rfl rfl (by decide) (Nat.le_of_ble_eq_true rfl) dL_law_773 (by decide) (fun v_773 h_773 p_773 => ?_)
  obtain ⟨rfl, hb, sm⟩ := p_773
  have hr := hr.sm sm (by omega)
  obtain ⟨_, _, _, _, y0⟩ := hr.obj
  refine aw_aload_n hX dL_law_776 rfl ?_
  refine aw_aload_n hX dL_law_777 rfl ?_
  refine aw_iload_n hX dL_law_778 rfl ?_
  refine aw_iconst hX (1) dL_law_779 (by decide) ?_
  refine aw_iadd hX dL_law_780 ?_
  refine aw_roaldN hX (i + 1) (by decide) (nI_add i 1) (by rw [hLE]; omega) (by rw [hLE]; omega) dL_law_781 ?_
  refine aw_aload_n hX dL_law_782 rfl ?_
  refine aw_iload_n hX dL_law_783 rfl ?_
  refine aw_iconst hX (2) dL_law_784 (by decide) ?_
  refine aw_iadd hX dL_law_785 ?_
  refine aw_roaldN hX (i + 2) (by decide) (nI_add i 2) (by rw [hLE]; omega) (by rw [hLE]; omega) dL_law_786 ?_
  refine aw_callV0 hX RL rfl (tX10_due _ _ _ hr _ _) rfl mf_X10_due mi_X10_due ms_X10_due kl_L_108 (by assumption) rfl rfl (by decide) (Nat.le_of_ble_eq_true rfl) dL_law_787 (by decide) (fun v_787 h_787 p_787 => ?_)
  obtain ⟨rfl, hr, sm⟩ := p_787
  have hb := hb.sm sm (by omega)
  refine aw_icmp_eq hX 907 dL_law_790 (by decide) (fun c_790 => ?_) (fun c_790 => ?_)
  · exact next _ _ _ _ _ hb hr (hok.mono (by omega))
  · exact absurd rfl c_790
theorem law_23 (hX : Cx X RL cL_law (some .boolean) 9 352 197 13897 202 post) (hLE : eN X.E 4 = L) (hL : L ≤ 2048) (hi : i + 4 ≤ L) (hc : c < 512) (hb : HB hh 5 B) (hr : HR hh 189 B W P o) (hok : OKB B (200 * c)) (next : ∀ (hh : HP) (B : FV) (W P o : Nat), HB hh 5 B → HR hh 189 B W P o → OKB B (200 * c + 200) → AW X 202 hh 197 13897 907 [some (.ref 4), some (.ref 5), some (.ref 189), some (.int (nI i))] []) : AW X 202 hh 197 13897 795 [some (.ref 4), some (.ref 5), some (.ref 189), some (.int (nI i))] [] := by
  have e0 := hb.1
  obtain ⟨_, _, _, _, y0⟩ := hr.obj
  refine aw_aload_n hX dL_law_795 rfl ?_
  refine aw_aload_n hX dL_law_796 rfl ?_
  refine aw_iload_n hX dL_law_797 rfl ?_
  refine aw_iconst hX (1) dL_law_798 (by decide) ?_
  refine aw_iadd hX dL_law_799 ?_
  refine aw_roaldN hX (i + 1) (by decide) (nI_add i 1) (by rw [hLE]; omega) (by rw [hLE]; omega) dL_law_800 ?_
  refine aw_aload_n hX dL_law_801 rfl ?_
  refine aw_iload_n hX dL_law_802 rfl ?_
  refine aw_iconst hX (2) dL_law_803 (by decide) ?_
  refine aw_iadd hX dL_law_804 ?_
  refine aw_roaldN hX (i + 2) (by decide) (nI_add i 2) (by rw [hLE]; omega) (by rw [hLE]; omega) dL_law_805 ?_
  refine aw_callV0 hX RL rfl (tX9_secondsFor _ _ _ hb hr.vw hr.sb (by have := hok.2.2.1; omega) _ _) rfl mf_X9_secondsFor mi_X9_secondsFor ms_X9_secondsFor kl_L_109 (by assumption) rfl rfl (by decide) (Nat.le_of_ble_eq_true rfl) dL_law_806 (by decide) (fun v_806 h_806 p_806 => ?_)
  obtain ⟨rfl, hb, sm⟩ := p_806
  have hr := hr.sm sm (by omega)
  obtain ⟨_, _, _, _, y0⟩ := hr.obj
  refine aw_aload_n hX dL_law_809 rfl ?_
  refine aw_aload_n hX dL_law_810 rfl ?_
  refine aw_iload_n hX dL_law_811 rfl ?_
  refine aw_iconst hX (1) dL_law_812 (by decide) ?_
  refine aw_iadd hX dL_law_813 ?_
  refine aw_roaldN hX (i + 1) (by decide) (nI_add i 1) (by rw [hLE]; omega) (by rw [hLE]; omega) dL_law_814 ?_
  refine aw_aload_n hX dL_law_815 rfl ?_
  refine aw_iload_n hX dL_law_816 rfl ?_
  refine aw_iconst hX (2) dL_law_817 (by decide) ?_
  refine aw_iadd hX dL_law_818 ?_
  refine aw_roaldN hX (i + 2) (by decide) (nI_add i 2) (by rw [hLE]; omega) (by rw [hLE]; omega) dL_law_819 ?_
  refine aw_callV0 hX RL rfl (tX10_secondsFor _ _ _ hr _ _) rfl mf_X10_secondsFor mi_X10_secondsFor ms_X10_secondsFor kl_L_112 (by assumption) rfl rfl (by decide) (Nat.le_of_ble_eq_true rfl) dL_law_820 (by decide) (fun v_820 h_820 p_820 => ?_)
  obtain ⟨rfl, hr, sm⟩ := p_820
  have hb := hb.sm sm (by omega)
  refine aw_icmp_eq hX 907 dL_law_823 (by decide) (fun c_823 => ?_) (fun c_823 => ?_)
  · exact next _ _ _ _ _ hb hr (hok.mono (by omega))
  · exact absurd rfl c_823
theorem law_24 (hX : Cx X RL cL_law (some .boolean) 9 352 197 13897 202 post) (hLE : eN X.E 4 = L) (hL : L ≤ 2048) (hi : i + 4 ≤ L) (hc : c < 512) (hb : HB hh 5 B) (hr : HR hh 189 B W P o) (hok : OKB B (200 * c)) (next : ∀ (hh : HP) (B : FV) (W P o : Nat), HB hh 5 B → HR hh 189 B W P o → OKB B (200 * c + 200) → AW X 202 hh 197 13897 907 [some (.ref 4), some (.ref 5), some (.ref 189), some (.int (nI i))] []) : AW X 202 hh 197 13897 828 [some (.ref 4), some (.ref 5), some (.ref 189), some (.int (nI i))] [] := by
  have e0 := hb.1
  obtain ⟨_, _, _, _, y0⟩ := hr.obj
  refine aw_aload_n hX dL_law_828 rfl ?_
  refine aw_aload_n hX dL_law_829 rfl ?_
  refine aw_iload_n hX dL_law_830 rfl ?_
  refine aw_iconst hX (1) dL_law_831 (by decide) ?_
  refine aw_iadd hX dL_law_832 ?_
  refine aw_roaldN hX (i + 1) (by decide) (nI_add i 1) (by rw [hLE]; omega) (by rw [hLE]; omega) dL_law_833 ?_
  refine aw_aload_n hX dL_law_834 rfl ?_
  refine aw_iload_n hX dL_law_835 rfl ?_
  refine aw_iconst hX (2) dL_law_836 (by decide) ?_
  refine aw_iadd hX dL_law_837 ?_
  refine aw_roaldN hX (i + 2) (by decide) (nI_add i 2) (by rw [hLE]; omega) (by rw [hLE]; omega) dL_law_838 ?_
  refine aw_callV0 hX RL rfl (tX9_between _ _ _ hb hr.vw _ _) rfl mf_X9_between mi_X9_between ms_X9_between kl_L_113 (by assumption) rfl rfl (by decide) (Nat.le_of_ble_eq_true rfl) dL_law_839 (by decide) (fun v_839 h_839 p_839 => ?_)
  obtain ⟨rfl, hb, sm⟩ := p_839
  have hr := hr.sm sm (by omega)
  obtain ⟨_, _, _, _, y0⟩ := hr.obj
  refine aw_aload_n hX dL_law_842 rfl ?_
  refine aw_aload_n hX dL_law_843 rfl ?_
  refine aw_iload_n hX dL_law_844 rfl ?_
  refine aw_iconst hX (1) dL_law_845 (by decide) ?_
  refine aw_iadd hX dL_law_846 ?_
  refine aw_roaldN hX (i + 1) (by decide) (nI_add i 1) (by rw [hLE]; omega) (by rw [hLE]; omega) dL_law_847 ?_
  refine aw_aload_n hX dL_law_848 rfl ?_
  refine aw_iload_n hX dL_law_849 rfl ?_
  refine aw_iconst hX (2) dL_law_850 (by decide) ?_
  refine aw_iadd hX dL_law_851 ?_
  refine aw_roaldN hX (i + 2) (by decide) (nI_add i 2) (by rw [hLE]; omega) (by rw [hLE]; omega) dL_law_852 ?_
  refine aw_callV0 hX RL rfl (tX10_between _ _ _ hr _ _) rfl mf_X10_between mi_X10_between ms_X10_between kl_L_116 (by assumption) rfl rfl (by decide) (Nat.le_of_ble_eq_true rfl) dL_law_853 (by decide) (fun v_853 h_853 p_853 => ?_)
  obtain ⟨rfl, hr, sm⟩ := p_853
  have hb := hb.sm sm (by omega)
  refine aw_icmp_eq hX 907 dL_law_856 (by decide) (fun c_856 => ?_) (fun c_856 => ?_)
  · exact next _ _ _ _ _ hb hr (hok.mono (by omega))
  · exact absurd rfl c_856
theorem law_25 (hX : Cx X RL cL_law (some .boolean) 9 352 197 13897 202 post) (hLE : eN X.E 4 = L) (hL : L ≤ 2048) (hi : i + 4 ≤ L) (hc : c < 512) (hb : HB hh 5 B) (hr : HR hh 189 B W P o) (hok : OKB B (200 * c)) (next : ∀ (hh : HP) (B : FV) (W P o : Nat), HB hh 5 B → HR hh 189 B W P o → OKB B (200 * c + 200) → AW X 202 hh 197 13897 907 [some (.ref 4), some (.ref 5), some (.ref 189), some (.int (nI i))] []) : AW X 202 hh 197 13897 861 [some (.ref 4), some (.ref 5), some (.ref 189), some (.int (nI i))] [] := by
  have e0 := hb.1
  obtain ⟨_, _, _, _, y0⟩ := hr.obj
  refine aw_aload_n hX dL_law_861 rfl ?_
  refine aw_aload_n hX dL_law_862 rfl ?_
  refine aw_iload_n hX dL_law_863 rfl ?_
  refine aw_iconst hX (1) dL_law_864 (by decide) ?_
  refine aw_iadd hX dL_law_865 ?_
  refine aw_roaldN hX (i + 1) (by decide) (nI_add i 1) (by rw [hLE]; omega) (by rw [hLE]; omega) dL_law_866 ?_
  refine aw_aload_n hX dL_law_867 rfl ?_
  refine aw_iload_n hX dL_law_868 rfl ?_
  refine aw_iconst hX (2) dL_law_869 (by decide) ?_
  refine aw_iadd hX dL_law_870 ?_
  refine aw_roaldN hX (i + 2) (by decide) (nI_add i 2) (by rw [hLE]; omega) (by rw [hLE]; omega) dL_law_871 ?_
  refine aw_callV0 hX RL rfl (tX9_bestOrder _ _ _ hb hr.vw _ _) rfl mf_X9_bestOrder mi_X9_bestOrder ms_X9_bestOrder kl_L_117 (by assumption) rfl rfl (by decide) (Nat.le_of_ble_eq_true rfl) dL_law_872 (by decide) (fun v_872 h_872 p_872 => ?_)
  obtain ⟨qm, qp, qs, qt, qh, rfl, hb, sm⟩ := p_872
  have hr := hr.sm sm (by omega)
  obtain ⟨_, _, _, _, y0⟩ := hr.obj
  refine aw_aload_n hX dL_law_875 rfl ?_
  refine aw_aload_n hX dL_law_876 rfl ?_
  refine aw_iload_n hX dL_law_877 rfl ?_
  refine aw_iconst hX (1) dL_law_878 (by decide) ?_
  refine aw_iadd hX dL_law_879 ?_
  refine aw_roaldN hX (i + 1) (by decide) (nI_add i 1) (by rw [hLE]; omega) (by rw [hLE]; omega) dL_law_880 ?_
  refine aw_aload_n hX dL_law_881 rfl ?_
  refine aw_iload_n hX dL_law_882 rfl ?_
  refine aw_iconst hX (2) dL_law_883 (by decide) ?_
  refine aw_iadd hX dL_law_884 ?_
  refine aw_roaldN hX (i + 2) (by decide) (nI_add i 2) (by rw [hLE]; omega) (by rw [hLE]; omega) dL_law_885 ?_
  refine aw_callV0 hX RL rfl (tX10_bestOrder _ _ _ hr _ _ qm qp qs qt qh) rfl mf_X10_bestOrder mi_X10_bestOrder ms_X10_bestOrder kl_L_120 (by assumption) rfl rfl (by decide) (Nat.le_of_ble_eq_true rfl) dL_law_886 (by decide) (fun v_886 h_886 p_886 => ?_)
  obtain ⟨rfl, hr, sm⟩ := p_886
  have hb := hb.sm sm (by omega)
  refine aw_icmp_eq hX 907 dL_law_889 (by decide) (fun c_889 => ?_) (fun c_889 => ?_)
  · exact next _ _ _ _ _ hb hr (hok.mono (by omega))
  · exact absurd rfl c_889
theorem law_26 (hX : Cx X RL cL_law (some .boolean) 9 352 197 13897 202 post) (hLE : eN X.E 4 = L) (hL : L ≤ 2048) (hi : i + 4 ≤ L) (hc : c < 512) (hb : HB hh 5 B) (hr : HR hh 189 B W P o) (hok : OKB B (200 * c)) (next : ∀ (hh : HP) (B : FV) (W P o : Nat), HB hh 5 B → HR hh 189 B W P o → OKB B (200 * c + 200) → AW X 202 hh 197 13897 907 [some (.ref 4), some (.ref 5), some (.ref 189), some (.int (nI i))] []) : AW X 202 hh 197 13897 894 [some (.ref 4), some (.ref 5), some (.ref 189), some (.int (nI i))] [] := by
  have e0 := hb.1
  obtain ⟨_, _, _, _, y0⟩ := hr.obj
  refine aw_aload_n hX dL_law_894 rfl ?_
  refine aw_callV0 hX RL rfl (tX9_undo _ _ _ hb) rfl mf_X9_undo mi_X9_undo ms_X9_undo kl_L_121 (by assumption) rfl rfl (by decide) (Nat.le_of_ble_eq_true rfl) dL_law_895 (by decide) (fun v_895 h_895 p_895 => ?_)
  obtain ⟨rfl, hb, sm⟩ := p_895
  have hr := hr.sm sm (by omega)
  obtain ⟨_, _, _, _, y0⟩ := hr.obj
  refine aw_aload_n hX dL_law_898 rfl ?_
  refine aw_callV0 hX RL rfl (tX10_undo _ _ _ hr) rfl mf_X10_undo mi_X10_undo ms_X10_undo kl_L_124 (by assumption) rfl rfl (by decide) (Nat.le_of_ble_eq_true rfl) dL_law_899 (by decide) (fun v_899 h_899 p_899 => ?_)
  obtain ⟨rfl, ⟨W2, P2, o2, hr⟩, sm⟩ := p_899
  have hb := hb.sm sm (by omega)
  refine aw_icmp_eq hX 907 dL_law_902 (by decide) (fun c_902 => ?_) (fun c_902 => ?_)
  · exact next _ _ _ _ _ hb hr (ok_undo hok )
  · exact absurd rfl c_902
end LAW
