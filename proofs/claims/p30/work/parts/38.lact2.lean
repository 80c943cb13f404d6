/-! the law's acts: letters and messages -/
section LACT2
variable {X : CX} {h : HP} {g b lt m : IF} {f : Nat → Int64} {B : FV} {W P o M T n v k c r : Nat} {z : Int32}
theorem LD.script {v : PV} (H : LD g b f v W P o M) {S : SV} (hS : WS S) : LD g b f (v.1, v.2.1, S, v.2.2.2) W P o M := by
  obtain ⟨⟨⟨v1, v2, v3, v4, v5, v6⟩, hW, hZ⟩, h2, h3, h4⟩ := H
  exact ⟨⟨⟨v1, v2, hS, v4, v5, v6⟩, hW, hZ⟩, h2, h3, h4⟩
theorem mx_eq {a w : Nat} (h : a = w) : w + 1 = max w (a + 1) := by
  rw [Nat.max_def]
  split <;> omega
theorem mx_lt {a w : Nat} (h : a < w) : w = max w (a + 1) := by
  rw [Nat.max_def]
  split <;> omega
theorem mx_in {a w j : Nat} (h : a ≤ w) (hj : j < max w (a + 1)) (hn : ¬ j = a) : j < w := by
  rw [Nat.max_def] at hj
  split at hj <;> omega
theorem mx_le {a w : Nat} (h : a ≤ 4) (hw : w ≤ 5) : max w (a + 1) ≤ 5 := by
  rw [Nat.max_def]
  split <;> omega
theorem LL.put {S : SV} (H : LL lt S) (h5 : ∀ c, c < 26 → S.2.1 c ≤ 5) {a i : Nat} (ha : a < 4) (hi : i ≤ S.2.1 a) (hi4 : i ≤ 4) (x : Int32) : LL (upd (upd lt (6 * a) (nI (max (S.2.1 a) (i + 1)))) (6 * a + 1 + i) x) (upd S.1 (a * 5 + i) x, updN S.2.1 a (max (S.2.1 a) (i + 1)), S.2.2) := fun d hd => by
  have hd5 := h5 d (by omega)
  have ha5 := h5 a (by omega)
  obtain ⟨q1, q2⟩ := H d hd
  by_cases e : d = a
  · subst e
    refine ⟨(pk_un (by omega)).trans (pk_us.trans (congrArg nI (updN_eq _ _ _).symm)), fun j hj => ?_⟩
    replace hj : j < updN S.2.1 d (max (S.2.1 d) (i + 1)) d := hj
    rw [updN_eq] at hj
    by_cases ej : j = i
    · subst ej
      exact pk_us.trans pk_us.symm
    · have hj2 := mx_in hi hj ej
      exact (pk_un (by omega)).trans ((pk_un (by omega)).trans ((q2 j hj2).trans (pk_un (by omega)).symm))
  · refine ⟨(pk_un (by omega)).trans ((pk_un (by omega)).trans (q1.trans (congrArg nI (updN_ne _ _ e).symm))), fun j hj => ?_⟩
    replace hj : j < updN S.2.1 a (max (S.2.1 a) (i + 1)) d := hj
    rw [updN_ne _ _ e] at hj
    exact (pk_un (by omega)).trans ((pk_un (by omega)).trans ((q2 j hj).trans (pk_un (by omega)).symm))
theorem acts_column (hX : Cx X RL cL_acts (some .boolean) 7 180 0 0 n (AP T)) (H : LX g b f lt m h B W P o M T) (hv : v < 1000000) : AW X n h 0 0 353 [some (.ref 5), some (.ref 189), some (.ref 190), some (.ref 191), some (.ref 192), some (.ref 193), some (.int z), some (.int (nI v)), some (.int (nI (BS B).2.2.2.2)), some (.int (nI k)), some (.int (nI c)), some (.int (nI r)), none, none, none, none, none, none, none, none, none, none, none, none, none, none] [] := by
  obtain ⟨e, eb, H, hl, hm, hs, hT1⟩ := H
  obtain ⟨e0, e1, e2, e3, e4⟩ := id e
  have b0 := eb.1
  have hWS : WS (BS B) := H.1.1.2.2.1
  have hw5 := hWS.2.1 (v % 4) (by omega)
  have l0 := (hl (v % 4) (by omega)).1
  have hac : (nI (v % 4)).toNatClampNeg = v % 4 := nI_clamp (by omega)
  have hic : (nI (v / 4 % 5)).toNatClampNeg = v / 4 % 5 := nI_clamp (by omega)
  refine aw_iload hX dL_acts_353 rfl ?_
  refine aw_iconst hX (4) dL_acts_355 (by decide) ?_
  refine aw_irem hX dL_acts_356 (by decide) ?_
  refine AW.top (y := nI (v % 4)) (pk_rem (a := v) (d := 4) (by omega) (by decide) (by decide)) ?_
  refine aw_istore hX dL_acts_357 (Nat.le_of_ble_eq_true rfl) ?_
  refine aw_iload hX dL_acts_359 rfl ?_
  refine aw_iconst hX (4) dL_acts_361 (by decide) ?_
  refine aw_idiv hX dL_acts_362 (by decide) ?_
  refine AW.top (y := nI (v / 4)) (pk_div (a := v) (d := 4) (by omega) (by decide) (by decide)) ?_
  refine aw_iconst hX (5) dL_acts_363 (by decide) ?_
  refine aw_irem hX dL_acts_364 (by decide) ?_
  refine AW.top (y := nI (v / 4 % 5)) (pk_rem (a := v / 4) (d := 5) (by omega) (by decide) (by decide)) ?_
  refine aw_istore hX dL_acts_365 (Nat.le_of_ble_eq_true rfl) ?_
  refine aw_iload hX dL_acts_367 rfl ?_
  refine aw_bipush hX (20) dL_acts_369 (by decide) ?_
  refine aw_idiv hX dL_acts_371 (by decide) ?_
  refine AW.top (y := nI (v / 20)) (pk_div (a := v) (d := 20) (by omega) (by decide) (by decide)) ?_
  refine aw_sipush hX (128) dL_acts_372 (by decide) ?_
  refine aw_irem hX dL_acts_375 (by decide) ?_
  refine AW.top (y := nI (v / 20 % 128)) (pk_rem (a := v / 20) (d := 128) (by omega) (by decide) (by decide)) ?_
  refine aw_istore hX dL_acts_376 (Nat.le_of_ble_eq_true rfl) ?_
  refine aw_iload hX dL_acts_378 rfl ?_
  refine aw_aload hX dL_acts_380 rfl ?_
  refine aw_bipush hX (6) dL_acts_382 (by decide) ?_
  refine aw_iload hX dL_acts_384 rfl ?_
  refine aw_imul hX dL_acts_386 ?_
  refine aw_ialdN hX (6 * (v % 4)) (by assumption) (ix6 _) (by omega) (by first | decide | assumption) dL_acts_387 ?_
  rw [l0]
  refine aw_icmp_le hX 413 dL_acts_388 (by decide) (fun c_388 => ?_) (fun c_388 => ?_)
  · have n_388 : v / 4 % 5 ≤ (BS B).2.1 (v % 4) := (nI_leI (a := v / 4 % 5) (b := (BS B).2.1 (v % 4)) (by omega) (by omega)).mp c_388
    refine aw_aload hX dL_acts_413 rfl ?_
    refine aw_bipush hX (6) dL_acts_415 (by decide) ?_
    refine aw_iload hX dL_acts_417 rfl ?_
    refine aw_imul hX dL_acts_419 ?_
    refine aw_dup2 hX dL_acts_420 rfl rfl ?_
    refine aw_ialdN hX (6 * (v % 4)) (by assumption) (ix6 _) (by omega) (by first | decide | assumption) dL_acts_421 ?_
    rw [l0]
    refine aw_iload hX dL_acts_422 rfl ?_
    refine aw_aload hX dL_acts_424 rfl ?_
    refine aw_bipush hX (6) dL_acts_426 (by decide) ?_
    refine aw_iload hX dL_acts_428 rfl ?_
    refine aw_imul hX dL_acts_430 ?_
    refine aw_ialdN hX (6 * (v % 4)) (by assumption) (ix6 _) (by omega) (by first | decide | assumption) dL_acts_431 ?_
    rw [l0]
    refine aw_icmp_ne hX 439 dL_acts_432 (by decide) (fun c_432 => ?_) (fun c_432 => ?_)
    · have n_432 : ¬ v / 4 % 5 = (BS B).2.1 (v % 4) := fun q_ => c_432 ((nI_eq (a := v / 4 % 5) (b := (BS B).2.1 (v % 4)) (by omega) (by omega)).mpr q_)
      refine aw_iconst hX (0) dL_acts_439 (by decide) ?_
      refine aw_iadd hX dL_acts_440 ?_
      refine AW.top (y := nI (max ((BS B).2.1 (v % 4)) (v / 4 % 5 + 1))) (by first | exact (nI_1 _).trans (congrArg nI (mx_eq n_432)) | exact (Int32.add_zero _).trans (congrArg nI (mx_lt (by omega)))) ?_
      refine aw_iastN hX (6 * (v % 4)) (by assumption) (ix6 _) (by omega) (by first | decide | assumption) dL_acts_441 ?_
      have e := e.ul (upd lt (6 * (v % 4)) (nI (max ((BS B).2.1 (v % 4)) (v / 4 % 5 + 1))))
      have eb := eb.out (a := 192) (cI 24 (upd lt (6 * (v % 4)) (nI (max ((BS B).2.1 (v % 4)) (v / 4 % 5 + 1))))) (by omega)
      generalize hset h 192 (cI 24 (upd lt (6 * (v % 4)) (nI (max ((BS B).2.1 (v % 4)) (v / 4 % 5 + 1))))) = hk at e eb ⊢
      obtain ⟨e0, e1, e2, e3, e4⟩ := id e
      refine aw_aload hX dL_acts_442 rfl ?_
      refine aw_bipush hX (6) dL_acts_444 (by decide) ?_
      refine aw_iload hX dL_acts_446 rfl ?_
      refine aw_imul hX dL_acts_448 ?_
      refine aw_iconst hX (1) dL_acts_449 (by decide) ?_
      refine aw_iadd hX dL_acts_450 ?_
      refine aw_iload hX dL_acts_451 rfl ?_
      refine aw_iadd hX dL_acts_453 ?_
      refine aw_iload hX dL_acts_454 rfl ?_
      refine aw_iastN hX (6 * (v % 4) + 1 + v / 4 % 5) (by assumption) (ix6i _ _) (by omega) (by first | decide | assumption) dL_acts_456 ?_
      have e := e.ul (upd (upd lt (6 * (v % 4)) (nI (max ((BS B).2.1 (v % 4)) (v / 4 % 5 + 1)))) (6 * (v % 4) + 1 + v / 4 % 5) (nI (v / 20 % 128)))
      have eb := eb.out (a := 192) (cI 24 (upd (upd lt (6 * (v % 4)) (nI (max ((BS B).2.1 (v % 4)) (v / 4 % 5 + 1)))) (6 * (v % 4) + 1 + v / 4 % 5) (nI (v / 20 % 128)))) (by omega)
      generalize hset hk 192 (cI 24 (upd (upd lt (6 * (v % 4)) (nI (max ((BS B).2.1 (v % 4)) (v / 4 % 5 + 1)))) (6 * (v % 4) + 1 + v / 4 % 5) (nI (v / 20 % 128)))) = hk at e eb ⊢
      have b0 := eb.1
      have hyes : fSetColumn B (nI (v % 4)) (nI (v / 4 % 5)) (nI (v / 20 % 128)) = (nI (max ((BS B).2.1 (v % 4)) (v / 4 % 5 + 1)), setS B (upd (BS B).1 (v % 4 * 5 + v / 4 % 5) (nI (v / 20 % 128)), updN (BS B).2.1 (v % 4) (max ((BS B).2.1 (v % 4)) (v / 4 % 5 + 1)), (BS B).2.2)) := by rw [fSetColumn, hac, hic, if_pos ⟨⟨Int32.not_lt.mp (nI_pos (by omega)), (nI_ltI (a := v % 4) (b := 26) (by omega) (by decide)).mpr (by omega)⟩, ⟨Int32.not_lt.mp (nI_pos (by omega)), (nI_leI (a := v / 20 % 128) (b := 127) (by omega) (by decide)).mpr (by omega)⟩, ⟨Int32.not_lt.mp (nI_pos (by omega)), (nI_ltI (a := v / 4 % 5) (b := 5) (by omega) (by decide)).mpr (by omega)⟩, (nI_leI (by omega) (by omega)).mpr (by omega)⟩]
      refine aw_aload_n hX dL_acts_457 rfl ?_
      refine aw_iload hX dL_acts_458 rfl ?_
      refine aw_iload hX dL_acts_460 rfl ?_
      refine aw_iload hX dL_acts_462 rfl ?_
      refine aw_callV0 hX RL rfl (tX9_setColumn _ _ _ eb hWS _ _ _) rfl mf_X9_setColumn mi_X9_setColumn ms_X9_setColumn kl_L_46 (by assumption) rfl rfl (by decide) (Nat.le_of_ble_eq_true rfl) dL_acts_464 (by decide) (fun v_464 h_464 p_464 => ?_)
      obtain ⟨rfl, eb, sm⟩ := pb_at p_464 hyes
      have e := e.sm sm (by omega)
      obtain ⟨e0, e1, e2, e3, e4⟩ := id e
      refine aw_aload hX dL_acts_467 rfl ?_
      refine aw_bipush hX (6) dL_acts_469 (by decide) ?_
      refine aw_iload hX dL_acts_471 rfl ?_
      refine aw_imul hX dL_acts_473 ?_
      refine aw_ialdN hX (6 * (v % 4)) (by assumption) (ix6 _) (by omega) (by first | decide | assumption) dL_acts_474 ?_
      rw [show upd (upd lt (6 * (v % 4)) (nI (max ((BS B).2.1 (v % 4)) (v / 4 % 5 + 1)))) (6 * (v % 4) + 1 + v / 4 % 5) (nI (v / 20 % 128)) (6 * (v % 4)) = nI (max ((BS B).2.1 (v % 4)) (v / 4 % 5 + 1)) from (pk_un (by omega)).trans pk_us]
      refine aw_icmp_ne hX 482 dL_acts_475 (by decide) (fun c_475 => ?_) (fun c_475 => ?_)
      · exact absurd rfl c_475
      · refine aw_iconst hX (1) dL_acts_478 (by decide) ?_
        refine aw_goto hX 483 dL_acts_479 (by decide) ?_
        exact aw_zret hX rfl (by first | exact Or.inl rfl | exact Or.inr rfl | assumption) rfl rfl rfl dL_acts_483 (by exact LX.fin (T' := T) ⟨e, eb, H.script ⟨hWS.1, fun q hq => by (by_cases w : q = v % 4); (show updN _ _ _ q ≤ 5; rw [w, updN_eq]; exact mx_le (by omega) hw5); (show updN _ _ _ q ≤ 5; rw [updN_ne _ _ w]; exact hWS.2.1 q hq), hWS.2.2⟩, hl.put hWS.2.1 (by omega) (by omega) (by omega) _, hm, fun q => by (by_cases w : q = v % 4 * 5 + v / 4 % 5); (show B7 (upd _ _ _ q); rw [w, pk_us]; exact B7_nI _ (by omega)); (show B7 (upd _ _ _ q); rw [pk_un w]; exact hs q), hT1⟩ (by omega))
    · have n_432 : v / 4 % 5 = (BS B).2.1 (v % 4) := (nI_eq (a := v / 4 % 5) (b := (BS B).2.1 (v % 4)) (by omega) (by omega)).mp c_432
      refine aw_iconst hX (1) dL_acts_435 (by decide) ?_
      refine aw_goto hX 440 dL_acts_436 (by decide) ?_
      refine aw_iadd hX dL_acts_440 ?_
      refine AW.top (y := nI (max ((BS B).2.1 (v % 4)) (v / 4 % 5 + 1))) (by first | exact (nI_1 _).trans (congrArg nI (mx_eq n_432)) | exact (Int32.add_zero _).trans (congrArg nI (mx_lt (by omega)))) ?_
      refine aw_iastN hX (6 * (v % 4)) (by assumption) (ix6 _) (by omega) (by first | decide | assumption) dL_acts_441 ?_
      have e := e.ul (upd lt (6 * (v % 4)) (nI (max ((BS B).2.1 (v % 4)) (v / 4 % 5 + 1))))
      have eb := eb.out (a := 192) (cI 24 (upd lt (6 * (v % 4)) (nI (max ((BS B).2.1 (v % 4)) (v / 4 % 5 + 1))))) (by omega)
      generalize hset h 192 (cI 24 (upd lt (6 * (v % 4)) (nI (max ((BS B).2.1 (v % 4)) (v / 4 % 5 + 1))))) = hk at e eb ⊢
      obtain ⟨e0, e1, e2, e3, e4⟩ := id e
      refine aw_aload hX dL_acts_442 rfl ?_
      refine aw_bipush hX (6) dL_acts_444 (by decide) ?_
      refine aw_iload hX dL_acts_446 rfl ?_
      refine aw_imul hX dL_acts_448 ?_
      refine aw_iconst hX (1) dL_acts_449 (by decide) ?_
      refine aw_iadd hX dL_acts_450 ?_
      refine aw_iload hX dL_acts_451 rfl ?_
      refine aw_iadd hX dL_acts_453 ?_
      refine aw_iload hX dL_acts_454 rfl ?_
      refine aw_iastN hX (6 * (v % 4) + 1 + v / 4 % 5) (by assumption) (ix6i _ _) (by omega) (by first | decide | assumption) dL_acts_456 ?_
      have e := e.ul (upd (upd lt (6 * (v % 4)) (nI (max ((BS B).2.1 (v % 4)) (v / 4 % 5 + 1)))) (6 * (v % 4) + 1 + v / 4 % 5) (nI (v / 20 % 128)))
      have eb := eb.out (a := 192) (cI 24 (upd (upd lt (6 * (v % 4)) (nI (max ((BS B).2.1 (v % 4)) (v / 4 % 5 + 1)))) (6 * (v % 4) + 1 + v / 4 % 5) (nI (v / 20 % 128)))) (by omega)
      generalize hset hk 192 (cI 24 (upd (upd lt (6 * (v % 4)) (nI (max ((BS B).2.1 (v % 4)) (v / 4 % 5 + 1)))) (6 * (v % 4) + 1 + v / 4 % 5) (nI (v / 20 % 128)))) = hk at e eb ⊢
      have b0 := eb.1
      have hyes : fSetColumn B (nI (v % 4)) (nI (v / 4 % 5)) (nI (v / 20 % 128)) = (nI (max ((BS B).2.1 (v % 4)) (v / 4 % 5 + 1)), setS B (upd (BS B).1 (v % 4 * 5 + v / 4 % 5) (nI (v / 20 % 128)), updN (BS B).2.1 (v % 4) (max ((BS B).2.1 (v % 4)) (v / 4 % 5 + 1)), (BS B).2.2)) := by rw [fSetColumn, hac, hic, if_pos ⟨⟨Int32.not_lt.mp (nI_pos (by omega)), (nI_ltI (a := v % 4) (b := 26) (by omega) (by decide)).mpr (by omega)⟩, ⟨Int32.not_lt.mp (nI_pos (by omega)), (nI_leI (a := v / 20 % 128) (b := 127) (by omega) (by decide)).mpr (by omega)⟩, ⟨Int32.not_lt.mp (nI_pos (by omega)), (nI_ltI (a := v / 4 % 5) (b := 5) (by omega) (by decide)).mpr (by omega)⟩, (nI_leI (by omega) (by omega)).mpr (by omega)⟩]
      refine aw_aload_n hX dL_acts_457 rfl ?_
      refine aw_iload hX dL_acts_458 rfl ?_
      refine aw_iload hX dL_acts_460 rfl ?_
      refine aw_iload hX dL_acts_462 rfl ?_
      refine aw_callV0 hX RL rfl (tX9_setColumn _ _ _ eb hWS _ _ _) rfl mf_X9_setColumn mi_X9_setColumn ms_X9_setColumn kl_L_46 (by assumption) rfl rfl (by decide) (Nat.le_of_ble_eq_true rfl) dL_acts_464 (by decide) (fun v_464 h_464 p_464 => ?_)
      obtain ⟨rfl, eb, sm⟩ := pb_at p_464 hyes
      have e := e.sm sm (by omega)
      obtain ⟨e0, e1, e2, e3, e4⟩ := id e
      refine aw_aload hX dL_acts_467 rfl ?_
      refine aw_bipush hX (6) dL_acts_469 (by decide) ?_
      refine aw_iload hX dL_acts_471 rfl ?_
      refine aw_imul hX dL_acts_473 ?_
      refine aw_ialdN hX (6 * (v % 4)) (by assumption) (ix6 _) (by omega) (by first | decide | assumption) dL_acts_474 ?_
      rw [show upd (upd lt (6 * (v % 4)) (nI (max ((BS B).2.1 (v % 4)) (v / 4 % 5 + 1)))) (6 * (v % 4) + 1 + v / 4 % 5) (nI (v / 20 % 128)) (6 * (v % 4)) = nI (max ((BS B).2.1 (v % 4)) (v / 4 % 5 + 1)) from (pk_un (by omega)).trans pk_us]
      refine aw_icmp_ne hX 482 dL_acts_475 (by decide) (fun c_475 => ?_) (fun c_475 => ?_)
      · exact absurd rfl c_475
      · refine aw_iconst hX (1) dL_acts_478 (by decide) ?_
        refine aw_goto hX 483 dL_acts_479 (by decide) ?_
        exact aw_zret hX rfl (by first | exact Or.inl rfl | exact Or.inr rfl | assumption) rfl rfl rfl dL_acts_483 (by exact LX.fin (T' := T) ⟨e, eb, H.script ⟨hWS.1, fun q hq => by (by_cases w : q = v % 4); (show updN _ _ _ q ≤ 5; rw [w, updN_eq]; exact mx_le (by omega) hw5); (show updN _ _ _ q ≤ 5; rw [updN_ne _ _ w]; exact hWS.2.1 q hq), hWS.2.2⟩, hl.put hWS.2.1 (by omega) (by omega) (by omega) _, hm, fun q => by (by_cases w : q = v % 4 * 5 + v / 4 % 5); (show B7 (upd _ _ _ q); rw [w, pk_us]; exact B7_nI _ (by omega)); (show B7 (upd _ _ _ q); rw [pk_un w]; exact hs q), hT1⟩ (by omega))
  · have n_388 : ¬ v / 4 % 5 ≤ (BS B).2.1 (v % 4) := fun q_ => c_388 ((nI_leI (a := v / 4 % 5) (b := (BS B).2.1 (v % 4)) (by omega) (by omega)).mpr q_)
    have hno : fSetColumn B (nI (v % 4)) (nI (v / 4 % 5)) (nI (v / 20 % 128)) = (-1001, B) := if_neg (fun q => n_388 ((nI_leI (by omega) (by omega)).mp (by have w := q.2.2.2; rw [hac] at w; exact w)))
    refine aw_aload_n hX dL_acts_391 rfl ?_
    refine aw_iload hX dL_acts_392 rfl ?_
    refine aw_iload hX dL_acts_394 rfl ?_
    refine aw_iload hX dL_acts_396 rfl ?_
    refine aw_callV0 hX RL rfl (tX9_setColumn _ _ _ eb hWS _ _ _) rfl mf_X9_setColumn mi_X9_setColumn ms_X9_setColumn kl_L_46 (by assumption) rfl rfl (by decide) (Nat.le_of_ble_eq_true rfl) dL_acts_398 (by decide) (fun v_398 h_398 p_398 => ?_)
    obtain ⟨rfl, eb, sm⟩ := pb_at p_398 hno
    refine aw_sipush hX (-1001) dL_acts_401 (by decide) ?_
    refine aw_icmp_ne hX 411 dL_acts_404 (by decide) (fun c_404 => ?_) (fun c_404 => ?_)
    · exact absurd rfl c_404
    · refine aw_iconst hX (1) dL_acts_407 (by decide) ?_
      refine aw_goto hX 412 dL_acts_408 (by decide) ?_
      exact aw_zret hX rfl (by first | exact Or.inl rfl | exact Or.inr rfl | assumption) rfl rfl rfl dL_acts_412 (by exact LX.fin (T' := T) ⟨e.sm sm (by omega), eb, H, hl, hm, hs, hT1⟩ (by omega))
/-! a message more -/
theorem upN2 (q : Nat → Nat) (j a d : Nat) : updN (updN q j a) j d = updN q j d := by
  funext i
  unfold updN
  split <;> rfl
theorem ad1 (S : SV) (x : Nat) : addC (stM S) x = (S.1, S.2.1, updN S.2.2.1 (S.2.2.2.2 * 12) x, updN S.2.2.2.1 S.2.2.2.2 1, S.2.2.2.2 + 1) := by
  show (S.1, S.2.1, updN S.2.2.1 (S.2.2.2.2 * 12 + updN S.2.2.2.1 S.2.2.2.2 0 S.2.2.2.2) x, updN (updN S.2.2.2.1 S.2.2.2.2 0) S.2.2.2.2 (updN S.2.2.2.1 S.2.2.2.2 0 S.2.2.2.2 + 1), S.2.2.2.2 + 1) = _
  rw [updN_eq, upN2]
  rfl
theorem ad2 (S : SV) (x y : Nat) : addC (addC (stM S) x) y = (S.1, S.2.1, updN (updN S.2.2.1 (S.2.2.2.2 * 12) x) (S.2.2.2.2 * 12 + 1) y, updN S.2.2.2.1 S.2.2.2.2 2, S.2.2.2.2 + 1) := by
  rw [ad1]
  show (S.1, S.2.1, updN (updN S.2.2.1 (S.2.2.2.2 * 12) x) (S.2.2.2.2 * 12 + updN S.2.2.2.1 S.2.2.2.2 1 S.2.2.2.2) y, updN (updN S.2.2.2.1 S.2.2.2.2 1) S.2.2.2.2 (updN S.2.2.2.1 S.2.2.2.2 1 S.2.2.2.2 + 1), S.2.2.2.2 + 1) = _
  rw [updN_eq, upN2]
/-- what a message more does to the law's array and to the class's -/
theorem LM.add {S S' : SV} {m' : IF} {L : Nat} {x : Nat → Nat} (H : LM m S) (hK : S.2.2.2.2 < 4) (hL : 1 ≤ L ∧ L ≤ 2) (hx : ∀ i, i < L → x i < 4 ∨ x i = 26) (k1 : S'.2.2.2.2 = S.2.2.2.2 + 1) (k2 : ∀ j, j < S.2.2.2.2 → S'.2.2.2.1 j = S.2.2.2.1 j) (k3 : S'.2.2.2.1 S.2.2.2.2 = L)
    (k4 : ∀ q, q < S.2.2.2.2 * 12 → S'.2.2.1 q = S.2.2.1 q) (k5 : ∀ i, i < L → S'.2.2.1 (S.2.2.2.2 * 12 + i) = x i) (m0 : m' 60 = nI (S.2.2.2.2 + 1)) (m1 : ∀ q, q < 13 * S.2.2.2.2 → m' q = m q) (m2 : m' (13 * S.2.2.2.2) = nI L) (m3 : ∀ i, i < L → m' (13 * S.2.2.2.2 + 1 + i) = nI (x i)) : LM m' S' := by
  obtain ⟨⟨h1, h2⟩, h3⟩ := H
  refine ⟨⟨by rw [k1]; exact m0, by omega⟩, fun j hj => ?_⟩
  by_cases e : j = S.2.2.2.2
  · subst e
    rw [k3]
    exact ⟨⟨m2, hL.1, hL.2⟩, fun i hi => ⟨by rw [k5 i hi]; exact m3 i hi, by rw [k5 i hi]; exact hx i hi⟩⟩
  · have hj' : j < S.2.2.2.2 := by omega
    obtain ⟨⟨q1, q2, q3⟩, q4⟩ := h3 j hj'
    rw [k2 j hj']
    refine ⟨⟨(m1 _ (by omega)).trans q1, q2, q3⟩, fun i hi => ?_⟩
    obtain ⟨q5, q6⟩ := q4 i hi
    rw [k4 _ (by omega)]
    exact ⟨(m1 _ (by omega)).trans q5, q6⟩
theorem WS.add {S S' : SV} {L : Nat} {x : Nat → Nat} (H : WS S) (hK : S.2.2.2.2 < 4) (hL : 1 ≤ L ∧ L ≤ 2) (hx : ∀ i, i < L → x i < 4 ∨ x i = 26) (k0 : S'.2.1 = S.2.1) (k1 : S'.2.2.2.2 = S.2.2.2.2 + 1) (k2 : ∀ j, j < S.2.2.2.2 → S'.2.2.2.1 j = S.2.2.2.1 j) (k3 : S'.2.2.2.1 S.2.2.2.2 = L)
    (k4 : ∀ q, q < S.2.2.2.2 * 12 → S'.2.2.1 q = S.2.2.1 q) (k5 : ∀ i, i < L → S'.2.2.1 (S.2.2.2.2 * 12 + i) = x i) : WS S' := by
  obtain ⟨h1, h2, h3⟩ := H
  refine ⟨by omega, by rw [k0]; exact h2, fun j hj => ?_⟩
  by_cases e : j = S.2.2.2.2
  · subst e
    rw [k3]
    exact ⟨hL.1, by omega, fun i hi => by rw [k5 i hi]; have := hx i hi; omega⟩
  · have hj' : j < S.2.2.2.2 := by omega
    obtain ⟨q1, q2, q3⟩ := h3 j hj'
    rw [k2 j hj']
    refine ⟨q1, q2, fun i hi => ?_⟩
    rw [k4 _ (by omega)]
    exact q3 i hi
theorem acts_add (hX : Cx X RL cL_acts (some .boolean) 7 180 0 0 n (AP T)) (H : LX g b f lt m h B W P o M T) (hv : v < 1000000) : AW X n h 0 0 484 [some (.ref 5), some (.ref 189), some (.ref 190), some (.ref 191), some (.ref 192), some (.ref 193), some (.int z), some (.int (nI v)), some (.int (nI (BS B).2.2.2.2)), some (.int (nI k)), some (.int (nI c)), some (.int (nI r)), none, none, none, none, none, none, none, none, none, none, none, none, none, none] [] := by
  obtain ⟨e, eb, H, hl, hm, hs, hT1⟩ := H
  obtain ⟨e0, e1, e2, e3, e4⟩ := id e
  have b0 := eb.1
  have hWS : WS (BS B) := H.1.1.2.2.1
  obtain ⟨⟨m0, m4⟩, -⟩ := id hm
  have tail : ∀ (on : Nat) (x : Int32), (on < 4 ∨ on = 26) → (x = -1 ∨ ∃ j, x = nI j ∧ (j < 4 ∨ j = 26)) → AW X n h 0 0 540 [some (.ref 5), some (.ref 189), some (.ref 190), some (.ref 191), some (.ref 192), some (.ref 193), some (.int z), some (.int (nI v)), some (.int (nI (BS B).2.2.2.2)), some (.int (nI k)), some (.int (nI c)), some (.int (nI r)), none, none, none, none, none, none, none, some (.int (nI on)), none, none, none, none, none, none] [.int x] := by
    intro on x hon hx
    have honc : (nI on).toNatClampNeg = on := nI_clamp (by omega)
    have hon1 : 0 ≤ nI on ∧ nI on ≤ 26 := ⟨Int32.not_lt.mp (nI_pos (by omega)), (nI_leI (a := on) (b := 26) (by omega) (by decide)).mpr (by omega)⟩
    have full : fAddMessage B 27 x = (-1001, B) := if_neg (fun q => absurd q.1.2 (by decide))
    rcases hx with rfl | ⟨j, rfl, hj⟩
    · have hyes : (BS B).2.2.2.2 < 4 → fAddMessage B (nI on) (-1) = (nI (BS B).2.2.2.2, setS B (addC (stM (BS B)) on)) := fun hK => by
        rw [fAddMessage, honc, if_pos ⟨hon1, by decide⟩, if_pos (by omega), if_pos rfl]
      refine aw_istore hX dL_acts_540 (Nat.le_of_ble_eq_true rfl) ?_
      refine aw_iload hX dL_acts_542 rfl ?_
      refine aw_iconst hX (4) dL_acts_544 (by decide) ?_
      refine aw_icmp_ne hX 568 dL_acts_545 (by decide) (fun c_545 => ?_) (fun c_545 => ?_)
      · have n_545 : ¬ (BS B).2.2.2.2 = 4 := fun q_ => c_545 ((nI_eq (a := (BS B).2.2.2.2) (b := 4) (by omega) (by omega)).mpr q_)
        have hK : (BS B).2.2.2.2 < 4 := by omega
        refine aw_aload hX dL_acts_568 rfl ?_
        refine aw_bipush hX (13) dL_acts_570 (by decide) ?_
        refine aw_iload hX dL_acts_572 rfl ?_
        refine aw_imul hX dL_acts_574 ?_
        refine aw_iload hX dL_acts_575 rfl ?_
        refine aw_if_ge hX 584 dL_acts_577 (by decide) (fun c_577 => ?_) (fun c_577 => ?_)
        · exact absurd c_577 (by decide)
        · refine aw_iconst hX (1) dL_acts_580 (by decide) ?_
          refine aw_goto hX 585 dL_acts_581 (by decide) ?_
          refine aw_iastN hX (13 * (BS B).2.2.2.2) (by assumption) (ix13 _) (by omega) (by first | decide | assumption) dL_acts_585 ?_
          have e := e.um (upd m (13 * (BS B).2.2.2.2) 1)
          have eb := eb.out (a := 193) (cI 61 (upd m (13 * (BS B).2.2.2.2) 1)) (by omega)
          generalize hset h 193 (cI 61 (upd m (13 * (BS B).2.2.2.2) 1)) = hk at e eb ⊢
          obtain ⟨e0, e1, e2, e3, e4⟩ := id e
          refine aw_aload hX dL_acts_586 rfl ?_
          refine aw_bipush hX (13) dL_acts_588 (by decide) ?_
          refine aw_iload hX dL_acts_590 rfl ?_
          refine aw_imul hX dL_acts_592 ?_
          refine aw_iconst hX (1) dL_acts_593 (by decide) ?_
          refine aw_iadd hX dL_acts_594 ?_
          refine aw_iload hX dL_acts_595 rfl ?_
          refine aw_iastN hX (13 * (BS B).2.2.2.2 + 1) (by assumption) (by rw [ix13, nI_1]) (by omega) (by first | decide | assumption) dL_acts_597 ?_
          have e := e.um (upd (upd m (13 * (BS B).2.2.2.2) 1) (13 * (BS B).2.2.2.2 + 1) (nI on))
          have eb := eb.out (a := 193) (cI 61 (upd (upd m (13 * (BS B).2.2.2.2) 1) (13 * (BS B).2.2.2.2 + 1) (nI on))) (by omega)
          generalize hset hk 193 (cI 61 (upd (upd m (13 * (BS B).2.2.2.2) 1) (13 * (BS B).2.2.2.2 + 1) (nI on))) = hk at e eb ⊢
          obtain ⟨e0, e1, e2, e3, e4⟩ := id e
          refine aw_aload hX dL_acts_598 rfl ?_
          refine aw_bipush hX (13) dL_acts_600 (by decide) ?_
          refine aw_iload hX dL_acts_602 rfl ?_
          refine aw_imul hX dL_acts_604 ?_
          refine aw_iconst hX (2) dL_acts_605 (by decide) ?_
          refine aw_iadd hX dL_acts_606 ?_
          refine aw_iload hX dL_acts_607 rfl ?_
          refine aw_iastN hX (13 * (BS B).2.2.2.2 + 2) (by assumption) (by rw [ix13]; exact nI_add _ 2) (by omega) (by first | decide | assumption) dL_acts_609 ?_
          have e := e.um (upd (upd (upd m (13 * (BS B).2.2.2.2) 1) (13 * (BS B).2.2.2.2 + 1) (nI on)) (13 * (BS B).2.2.2.2 + 2) (-1))
          have eb := eb.out (a := 193) (cI 61 (upd (upd (upd m (13 * (BS B).2.2.2.2) 1) (13 * (BS B).2.2.2.2 + 1) (nI on)) (13 * (BS B).2.2.2.2 + 2) (-1))) (by omega)
          generalize hset hk 193 (cI 61 (upd (upd (upd m (13 * (BS B).2.2.2.2) 1) (13 * (BS B).2.2.2.2 + 1) (nI on)) (13 * (BS B).2.2.2.2 + 2) (-1))) = hk at e eb ⊢
          obtain ⟨e0, e1, e2, e3, e4⟩ := id e
          refine aw_aload hX dL_acts_610 rfl ?_
          refine aw_bipush hX (60) dL_acts_612 (by decide) ?_
          refine aw_dup2 hX dL_acts_614 rfl rfl ?_
          refine aw_ialdN hX (60) (by assumption) rfl (by decide) (by first | decide | assumption) dL_acts_615 ?_
          rw [show upd (upd (upd m (13 * (BS B).2.2.2.2) 1) (13 * (BS B).2.2.2.2 + 1) (nI on)) (13 * (BS B).2.2.2.2 + 2) (-1) 60 = nI (BS B).2.2.2.2 from (pk_un (by omega)).trans ((pk_un (by omega)).trans ((pk_un (by omega)).trans m0))]
          refine aw_iconst hX (1) dL_acts_616 (by decide) ?_
          refine aw_iadd hX dL_acts_617 ?_
          rw [nI_1]
          refine aw_iastN hX (60) (by assumption) rfl (by decide) (by first | decide | assumption) dL_acts_618 ?_
          have e := e.um (upd (upd (upd (upd m (13 * (BS B).2.2.2.2) 1) (13 * (BS B).2.2.2.2 + 1) (nI on)) (13 * (BS B).2.2.2.2 + 2) (-1)) 60 (nI ((BS B).2.2.2.2 + 1)))
          have eb := eb.out (a := 193) (cI 61 (upd (upd (upd (upd m (13 * (BS B).2.2.2.2) 1) (13 * (BS B).2.2.2.2 + 1) (nI on)) (13 * (BS B).2.2.2.2 + 2) (-1)) 60 (nI ((BS B).2.2.2.2 + 1)))) (by omega)
          generalize hset hk 193 (cI 61 (upd (upd (upd (upd m (13 * (BS B).2.2.2.2) 1) (13 * (BS B).2.2.2.2 + 1) (nI on)) (13 * (BS B).2.2.2.2 + 2) (-1)) 60 (nI ((BS B).2.2.2.2 + 1)))) = hk at e eb ⊢
          have b0 := eb.1
          refine aw_aload_n hX dL_acts_619 rfl ?_
          refine aw_iload hX dL_acts_620 rfl ?_
          refine aw_iload hX dL_acts_622 rfl ?_
          refine aw_callV0 hX RL rfl (tX9_addMessage _ _ _ eb hWS _ _) rfl mf_X9_addMessage mi_X9_addMessage ms_X9_addMessage kl_L_50 (by assumption) rfl rfl (by decide) (Nat.le_of_ble_eq_true rfl) dL_acts_624 (by decide) (fun v_624 h_624 p_624 => ?_)
          obtain ⟨rfl, eb, sm⟩ := pb_at p_624 (hyes hK)
          refine aw_iload hX dL_acts_627 rfl ?_
          refine aw_icmp_ne hX 636 dL_acts_629 (by decide) (fun c_629 => ?_) (fun c_629 => ?_)
          · exact absurd rfl c_629
          · refine aw_iconst hX (1) dL_acts_632 (by decide) ?_
            refine aw_goto hX 637 dL_acts_633 (by decide) ?_
            exact aw_zret hX rfl (by first | exact Or.inl rfl | exact Or.inr rfl | assumption) rfl rfl rfl dL_acts_637 (by rw [ad1] at eb; exact LX.fin (T' := T) ⟨e.sm sm (by omega), eb, H.script (WS.add (L := 1) (x := fun _ => on) hWS hK (by decide) (fun i _ => hon) rfl rfl (fun j hj => updN_ne _ _ (by omega)) (updN_eq _ _ _) (fun q hq => updN_ne _ _ (by omega)) (fun i hi => by obtain rfl : i = 0 := (by omega); exact updN_eq _ _ _)), hl, LM.add (L := 1) (x := fun _ => on) hm hK (by decide) (fun i _ => hon) rfl (fun j hj => updN_ne _ _ (by omega)) (updN_eq _ _ _) (fun q hq => updN_ne _ _ (by omega)) (fun i hi => by obtain rfl : i = 0 := (by omega); exact updN_eq _ _ _) pk_us (fun q hq => (pk_un (by omega)).trans ((pk_un (by omega)).trans ((pk_un (by omega)).trans (pk_un (by omega))))) ((pk_un (by omega)).trans ((pk_un (by omega)).trans ((pk_un (by omega)).trans pk_us))) (fun i hi => by obtain rfl : i = 0 := (by omega); exact (pk_un (by omega)).trans ((pk_un (by omega)).trans pk_us)), hs, hT1⟩ (by omega))
      · have n_545 : (BS B).2.2.2.2 = 4 := (nI_eq (a := (BS B).2.2.2.2) (b := 4) (by omega) (by omega)).mp c_545
        refine aw_aload_n hX dL_acts_548 rfl ?_
        refine aw_bipush hX (27) dL_acts_549 (by decide) ?_
        refine aw_iload hX dL_acts_551 rfl ?_
        refine aw_callV0 hX RL rfl (tX9_addMessage _ _ _ eb hWS _ _) rfl mf_X9_addMessage mi_X9_addMessage ms_X9_addMessage kl_L_50 (by assumption) rfl rfl (by decide) (Nat.le_of_ble_eq_true rfl) dL_acts_553 (by decide) (fun v_553 h_553 p_553 => ?_)
        obtain ⟨rfl, eb, sm⟩ := pb_at p_553 full
        refine aw_sipush hX (-1001) dL_acts_556 (by decide) ?_
        refine aw_icmp_ne hX 566 dL_acts_559 (by decide) (fun c_559 => ?_) (fun c_559 => ?_)
        · exact absurd rfl c_559
        · refine aw_iconst hX (1) dL_acts_562 (by decide) ?_
          refine aw_goto hX 567 dL_acts_563 (by decide) ?_
          exact aw_zret hX rfl (by first | exact Or.inl rfl | exact Or.inr rfl | assumption) rfl rfl rfl dL_acts_567 (by exact LX.fin (T' := T) ⟨e.sm sm (by omega), eb, H, hl, hm, hs, hT1⟩ (by omega))
    · have hjc : (nI j).toNatClampNeg = j := nI_clamp (by omega)
      have hjn : ¬ nI j = -1 := fun q => by
        have := (iI_inj (a := j) (b := -1) (by omega) (by omega) (by decide) (by decide)).mp (by rw [← iI_n]; exact q)
        omega
      have hyes : (BS B).2.2.2.2 < 4 → fAddMessage B (nI on) (nI j) = (nI (BS B).2.2.2.2, setS B (addC (addC (stM (BS B)) on) j)) := fun hK => by
        rw [fAddMessage, honc, hjc, if_pos ⟨hon1, Int32.le_trans (by decide) (Int32.not_lt.mp (nI_pos (by omega : j < 2 ^ 31))), (nI_leI (a := j) (b := 26) (by omega) (by decide)).mpr (by omega)⟩, if_pos (by omega), if_neg hjn]
      refine aw_istore hX dL_acts_540 (Nat.le_of_ble_eq_true rfl) ?_
      refine aw_iload hX dL_acts_542 rfl ?_
      refine aw_iconst hX (4) dL_acts_544 (by decide) ?_
      refine aw_icmp_ne hX 568 dL_acts_545 (by decide) (fun c_545 => ?_) (fun c_545 => ?_)
      · have n_545 : ¬ (BS B).2.2.2.2 = 4 := fun q_ => c_545 ((nI_eq (a := (BS B).2.2.2.2) (b := 4) (by omega) (by omega)).mpr q_)
        have hK : (BS B).2.2.2.2 < 4 := by omega
        refine aw_aload hX dL_acts_568 rfl ?_
        refine aw_bipush hX (13) dL_acts_570 (by decide) ?_
        refine aw_iload hX dL_acts_572 rfl ?_
        refine aw_imul hX dL_acts_574 ?_
        refine aw_iload hX dL_acts_575 rfl ?_
        refine aw_if_ge hX 584 dL_acts_577 (by decide) (fun c_577 => ?_) (fun c_577 => ?_)
        · refine aw_iconst hX (2) dL_acts_584 (by decide) ?_
          refine aw_iastN hX (13 * (BS B).2.2.2.2) (by assumption) (ix13 _) (by omega) (by first | decide | assumption) dL_acts_585 ?_
          have e := e.um (upd m (13 * (BS B).2.2.2.2) 2)
          have eb := eb.out (a := 193) (cI 61 (upd m (13 * (BS B).2.2.2.2) 2)) (by omega)
          generalize hset h 193 (cI 61 (upd m (13 * (BS B).2.2.2.2) 2)) = hk at e eb ⊢
          obtain ⟨e0, e1, e2, e3, e4⟩ := id e
          refine aw_aload hX dL_acts_586 rfl ?_
          refine aw_bipush hX (13) dL_acts_588 (by decide) ?_
          refine aw_iload hX dL_acts_590 rfl ?_
          refine aw_imul hX dL_acts_592 ?_
          refine aw_iconst hX (1) dL_acts_593 (by decide) ?_
          refine aw_iadd hX dL_acts_594 ?_
          refine aw_iload hX dL_acts_595 rfl ?_
          refine aw_iastN hX (13 * (BS B).2.2.2.2 + 1) (by assumption) (by rw [ix13, nI_1]) (by omega) (by first | decide | assumption) dL_acts_597 ?_
          have e := e.um (upd (upd m (13 * (BS B).2.2.2.2) 2) (13 * (BS B).2.2.2.2 + 1) (nI on))
          have eb := eb.out (a := 193) (cI 61 (upd (upd m (13 * (BS B).2.2.2.2) 2) (13 * (BS B).2.2.2.2 + 1) (nI on))) (by omega)
          generalize hset hk 193 (cI 61 (upd (upd m (13 * (BS B).2.2.2.2) 2) (13 * (BS B).2.2.2.2 + 1) (nI on))) = hk at e eb ⊢
          obtain ⟨e0, e1, e2, e3, e4⟩ := id e
          refine aw_aload hX dL_acts_598 rfl ?_
          refine aw_bipush hX (13) dL_acts_600 (by decide) ?_
          refine aw_iload hX dL_acts_602 rfl ?_
          refine aw_imul hX dL_acts_604 ?_
          refine aw_iconst hX (2) dL_acts_605 (by decide) ?_
          refine aw_iadd hX dL_acts_606 ?_
          refine aw_iload hX dL_acts_607 rfl ?_
          refine aw_iastN hX (13 * (BS B).2.2.2.2 + 2) (by assumption) (by rw [ix13]; exact nI_add _ 2) (by omega) (by first | decide | assumption) dL_acts_609 ?_
          have e := e.um (upd (upd (upd m (13 * (BS B).2.2.2.2) 2) (13 * (BS B).2.2.2.2 + 1) (nI on)) (13 * (BS B).2.2.2.2 + 2) (nI j))
          have eb := eb.out (a := 193) (cI 61 (upd (upd (upd m (13 * (BS B).2.2.2.2) 2) (13 * (BS B).2.2.2.2 + 1) (nI on)) (13 * (BS B).2.2.2.2 + 2) (nI j))) (by omega)
          generalize hset hk 193 (cI 61 (upd (upd (upd m (13 * (BS B).2.2.2.2) 2) (13 * (BS B).2.2.2.2 + 1) (nI on)) (13 * (BS B).2.2.2.2 + 2) (nI j))) = hk at e eb ⊢
          obtain ⟨e0, e1, e2, e3, e4⟩ := id e
          refine aw_aload hX dL_acts_610 rfl ?_
          refine aw_bipush hX (60) dL_acts_612 (by decide) ?_
          refine aw_dup2 hX dL_acts_614 rfl rfl ?_
          refine aw_ialdN hX (60) (by assumption) rfl (by decide) (by first | decide | assumption) dL_acts_615 ?_
          rw [show upd (upd (upd m (13 * (BS B).2.2.2.2) 2) (13 * (BS B).2.2.2.2 + 1) (nI on)) (13 * (BS B).2.2.2.2 + 2) (nI j) 60 = nI (BS B).2.2.2.2 from (pk_un (by omega)).trans ((pk_un (by omega)).trans ((pk_un (by omega)).trans m0))]
          refine aw_iconst hX (1) dL_acts_616 (by decide) ?_
          refine aw_iadd hX dL_acts_617 ?_
          rw [nI_1]
          refine aw_iastN hX (60) (by assumption) rfl (by decide) (by first | decide | assumption) dL_acts_618 ?_
          have e := e.um (upd (upd (upd (upd m (13 * (BS B).2.2.2.2) 2) (13 * (BS B).2.2.2.2 + 1) (nI on)) (13 * (BS B).2.2.2.2 + 2) (nI j)) 60 (nI ((BS B).2.2.2.2 + 1)))
          have eb := eb.out (a := 193) (cI 61 (upd (upd (upd (upd m (13 * (BS B).2.2.2.2) 2) (13 * (BS B).2.2.2.2 + 1) (nI on)) (13 * (BS B).2.2.2.2 + 2) (nI j)) 60 (nI ((BS B).2.2.2.2 + 1)))) (by omega)
          generalize hset hk 193 (cI 61 (upd (upd (upd (upd m (13 * (BS B).2.2.2.2) 2) (13 * (BS B).2.2.2.2 + 1) (nI on)) (13 * (BS B).2.2.2.2 + 2) (nI j)) 60 (nI ((BS B).2.2.2.2 + 1)))) = hk at e eb ⊢
          have b0 := eb.1
          refine aw_aload_n hX dL_acts_619 rfl ?_
          refine aw_iload hX dL_acts_620 rfl ?_
          refine aw_iload hX dL_acts_622 rfl ?_
          refine aw_callV0 hX RL rfl (tX9_addMessage _ _ _ eb hWS _ _) rfl mf_X9_addMessage mi_X9_addMessage ms_X9_addMessage kl_L_50 (by assumption) rfl rfl (by decide) (Nat.le_of_ble_eq_true rfl) dL_acts_624 (by decide) (fun v_624 h_624 p_624 => ?_)
          obtain ⟨rfl, eb, sm⟩ := pb_at p_624 (hyes hK)
          refine aw_iload hX dL_acts_627 rfl ?_
          refine aw_icmp_ne hX 636 dL_acts_629 (by decide) (fun c_629 => ?_) (fun c_629 => ?_)
          · exact absurd rfl c_629
          · refine aw_iconst hX (1) dL_acts_632 (by decide) ?_
            refine aw_goto hX 637 dL_acts_633 (by decide) ?_
            exact aw_zret hX rfl (by first | exact Or.inl rfl | exact Or.inr rfl | assumption) rfl rfl rfl dL_acts_637 (by rw [ad2] at eb; exact LX.fin (T' := T) ⟨e.sm sm (by omega), eb, H.script (WS.add (L := 2) (x := fun i => if i = 0 then on else j) hWS hK (by decide) (fun i _ => by (show (if i = 0 then on else j) < 4 ∨ (if i = 0 then on else j) = 26); split; exact hon; exact hj) rfl rfl (fun q hq => updN_ne _ _ (by omega)) (updN_eq _ _ _) (fun q hq => (updN_ne _ _ (by omega)).trans (updN_ne _ _ (by omega))) (fun i hi => by (rcases (show i = 0 ∨ i = 1 by omega) with w | w <;> subst w); exact (updN_ne _ _ (by omega)).trans (updN_eq _ _ _); exact updN_eq _ _ _)), hl, LM.add (L := 2) (x := fun i => if i = 0 then on else j) hm hK (by decide) (fun i _ => by (show (if i = 0 then on else j) < 4 ∨ (if i = 0 then on else j) = 26); split; exact hon; exact hj) rfl (fun q hq => updN_ne _ _ (by omega)) (updN_eq _ _ _) (fun q hq => (updN_ne _ _ (by omega)).trans (updN_ne _ _ (by omega))) (fun i hi => by (rcases (show i = 0 ∨ i = 1 by omega) with w | w <;> subst w); exact (updN_ne _ _ (by omega)).trans (updN_eq _ _ _); exact updN_eq _ _ _) pk_us (fun q hq => (pk_un (by omega)).trans ((pk_un (by omega)).trans ((pk_un (by omega)).trans (pk_un (by omega))))) ((pk_un (by omega)).trans ((pk_un (by omega)).trans ((pk_un (by omega)).trans pk_us))) (fun i hi => by (rcases (show i = 0 ∨ i = 1 by omega) with w | w <;> subst w); exact (pk_un (by omega)).trans ((pk_un (by omega)).trans pk_us); exact (pk_un (by omega)).trans pk_us), hs, hT1⟩ (by omega))
        · exact absurd (Int32.not_lt.mp (nI_pos (by omega))) c_577
      · have n_545 : (BS B).2.2.2.2 = 4 := (nI_eq (a := (BS B).2.2.2.2) (b := 4) (by omega) (by omega)).mp c_545
        refine aw_aload_n hX dL_acts_548 rfl ?_
        refine aw_bipush hX (27) dL_acts_549 (by decide) ?_
        refine aw_iload hX dL_acts_551 rfl ?_
        refine aw_callV0 hX RL rfl (tX9_addMessage _ _ _ eb hWS _ _) rfl mf_X9_addMessage mi_X9_addMessage ms_X9_addMessage kl_L_50 (by assumption) rfl rfl (by decide) (Nat.le_of_ble_eq_true rfl) dL_acts_553 (by decide) (fun v_553 h_553 p_553 => ?_)
        obtain ⟨rfl, eb, sm⟩ := pb_at p_553 full
        refine aw_sipush hX (-1001) dL_acts_556 (by decide) ?_
        refine aw_icmp_ne hX 566 dL_acts_559 (by decide) (fun c_559 => ?_) (fun c_559 => ?_)
        · exact absurd rfl c_559
        · refine aw_iconst hX (1) dL_acts_562 (by decide) ?_
          refine aw_goto hX 567 dL_acts_563 (by decide) ?_
          exact aw_zret hX rfl (by first | exact Or.inl rfl | exact Or.inr rfl | assumption) rfl rfl rfl dL_acts_567 (by exact LX.fin (T' := T) ⟨e.sm sm (by omega), eb, H, hl, hm, hs, hT1⟩ (by omega))
  have hon : (if v % 9 = 0 then 26 else v % 4) < 4 ∨ (if v % 9 = 0 then 26 else v % 4) = 26 := by
    split <;> omega
  generalize hone : (if v % 9 = 0 then 26 else v % 4) = on at hon
  refine aw_iload hX dL_acts_484 rfl ?_
  refine aw_bipush hX (9) dL_acts_486 (by decide) ?_
  refine aw_irem hX dL_acts_488 (by decide) ?_
  refine AW.top (y := nI (v % 9)) (pk_rem (a := v) (d := 9) (by omega) (by decide) (by decide)) ?_
  refine aw_if_ne hX 497 dL_acts_489 (by decide) (fun c_489 => ?_) (fun c_489 => ?_)
  · have n_489 : ¬ v % 9 = 0 := fun q_ => c_489 ((nI_eq (a := v % 9) (b := 0) (by omega) (by omega)).mpr q_)
    refine aw_iload hX dL_acts_497 rfl ?_
    refine aw_iconst hX (4) dL_acts_499 (by decide) ?_
    refine aw_irem hX dL_acts_500 (by decide) ?_
    refine AW.top (y := nI (v % 4)) (pk_rem (a := v) (d := 4) (by omega) (by decide) (by decide)) ?_
    refine AW.top (y := nI on) (by rw [← hone]; first | exact (congrArg nI (if_pos n_489)).symm | exact (congrArg nI (if_neg n_489)).symm) ?_
    refine aw_istore hX dL_acts_501 (Nat.le_of_ble_eq_true rfl) ?_
    refine aw_iload hX dL_acts_503 rfl ?_
    refine aw_iconst hX (4) dL_acts_505 (by decide) ?_
    refine aw_idiv hX dL_acts_506 (by decide) ?_
    refine AW.top (y := nI (v / 4)) (pk_div (a := v) (d := 4) (by omega) (by decide) (by decide)) ?_
    refine aw_bipush hX (6) dL_acts_507 (by decide) ?_
    refine aw_irem hX dL_acts_509 (by decide) ?_
    refine AW.top (y := nI (v / 4 % 6)) (pk_rem (a := v / 4) (d := 6) (by omega) (by decide) (by decide)) ?_
    refine aw_if_ne hX 517 dL_acts_510 (by decide) (fun c_510 => ?_) (fun c_510 => ?_)
    · have n_510 : ¬ v / 4 % 6 = 0 := fun q_ => c_510 ((nI_eq (a := v / 4 % 6) (b := 0) (by omega) (by omega)).mpr q_)
      refine aw_iload hX dL_acts_517 rfl ?_
      refine aw_iconst hX (4) dL_acts_519 (by decide) ?_
      refine aw_idiv hX dL_acts_520 (by decide) ?_
      refine AW.top (y := nI (v / 4)) (pk_div (a := v) (d := 4) (by omega) (by decide) (by decide)) ?_
      refine aw_bipush hX (6) dL_acts_521 (by decide) ?_
      refine aw_irem hX dL_acts_523 (by decide) ?_
      refine AW.top (y := nI (v / 4 % 6)) (pk_rem (a := v / 4) (d := 6) (by omega) (by decide) (by decide)) ?_
      refine aw_iconst hX (1) dL_acts_524 (by decide) ?_
      refine aw_icmp_ne hX 533 dL_acts_525 (by decide) (fun c_525 => ?_) (fun c_525 => ?_)
      · have n_525 : ¬ v / 4 % 6 = 1 := fun q_ => c_525 ((nI_eq (a := v / 4 % 6) (b := 1) (by omega) (by omega)).mpr q_)
        refine aw_iload hX dL_acts_533 rfl ?_
        refine aw_bipush hX (24) dL_acts_535 (by decide) ?_
        refine aw_idiv hX dL_acts_537 (by decide) ?_
        refine AW.top (y := nI (v / 24)) (pk_div (a := v) (d := 24) (by omega) (by decide) (by decide)) ?_
        refine aw_iconst hX (4) dL_acts_538 (by decide) ?_
        refine aw_irem hX dL_acts_539 (by decide) ?_
        refine AW.top (y := nI (v / 24 % 4)) (pk_rem (a := v / 24) (d := 4) (by omega) (by decide) (by decide)) ?_
        first | exact tail on (-1) hon (Or.inl rfl) | exact tail on (nI (v / 24 % 4)) hon (Or.inr ⟨v / 24 % 4, rfl, Or.inl (by omega)⟩) | exact tail on (nI 26) hon (Or.inr ⟨26, rfl, Or.inr rfl⟩)
      · have n_525 : v / 4 % 6 = 1 := (nI_eq (a := v / 4 % 6) (b := 1) (by omega) (by omega)).mp c_525
        refine aw_bipush hX (26) dL_acts_528 (by decide) ?_
        refine aw_goto hX 540 dL_acts_530 (by decide) ?_
        first | exact tail on (-1) hon (Or.inl rfl) | exact tail on (nI (v / 24 % 4)) hon (Or.inr ⟨v / 24 % 4, rfl, Or.inl (by omega)⟩) | exact tail on (nI 26) hon (Or.inr ⟨26, rfl, Or.inr rfl⟩)
    · have n_510 : v / 4 % 6 = 0 := (nI_eq (a := v / 4 % 6) (b := 0) (by omega) (by omega)).mp c_510
      refine aw_iconst hX (-1) dL_acts_513 (by decide) ?_
      refine aw_goto hX 540 dL_acts_514 (by decide) ?_
      first | exact tail on (-1) hon (Or.inl rfl) | exact tail on (nI (v / 24 % 4)) hon (Or.inr ⟨v / 24 % 4, rfl, Or.inl (by omega)⟩) | exact tail on (nI 26) hon (Or.inr ⟨26, rfl, Or.inr rfl⟩)
  · have n_489 : v % 9 = 0 := (nI_eq (a := v % 9) (b := 0) (by omega) (by omega)).mp c_489
    refine aw_bipush hX (26) dL_acts_492 (by decide) ?_
    refine aw_goto hX 501 dL_acts_494 (by decide) ?_
    refine AW.top (y := nI on) (by rw [← hone]; first | exact (congrArg nI (if_pos n_489)).symm | exact (congrArg nI (if_neg n_489)).symm) ?_
    refine aw_istore hX dL_acts_501 (Nat.le_of_ble_eq_true rfl) ?_
    refine aw_iload hX dL_acts_503 rfl ?_
    refine aw_iconst hX (4) dL_acts_505 (by decide) ?_
    refine aw_idiv hX dL_acts_506 (by decide) ?_
    refine AW.top (y := nI (v / 4)) (pk_div (a := v) (d := 4) (by omega) (by decide) (by decide)) ?_
    refine aw_bipush hX (6) dL_acts_507 (by decide) ?_
    refine aw_irem hX dL_acts_509 (by decide) ?_
    refine AW.top (y := nI (v / 4 % 6)) (pk_rem (a := v / 4) (d := 6) (by omega) (by decide) (by decide)) ?_
    refine aw_if_ne hX 517 dL_acts_510 (by decide) (fun c_510 => ?_) (fun c_510 => ?_)
    · have n_510 : ¬ v / 4 % 6 = 0 := fun q_ => c_510 ((nI_eq (a := v / 4 % 6) (b := 0) (by omega) (by omega)).mpr q_)
      refine aw_iload hX dL_acts_517 rfl ?_
      refine aw_iconst hX (4) dL_acts_519 (by decide) ?_
      refine aw_idiv hX dL_acts_520 (by decide) ?_
      refine AW.top (y := nI (v / 4)) (pk_div (a := v) (d := 4) (by omega) (by decide) (by decide)) ?_
      refine aw_bipush hX (6) dL_acts_521 (by decide) ?_
      refine aw_irem hX dL_acts_523 (by decide) ?_
      refine AW.top (y := nI (v / 4 % 6)) (pk_rem (a := v / 4) (d := 6) (by omega) (by decide) (by decide)) ?_
      refine aw_iconst hX (1) dL_acts_524 (by decide) ?_
      refine aw_icmp_ne hX 533 dL_acts_525 (by decide) (fun c_525 => ?_) (fun c_525 => ?_)
      · have n_525 : ¬ v / 4 % 6 = 1 := fun q_ => c_525 ((nI_eq (a := v / 4 % 6) (b := 1) (by omega) (by omega)).mpr q_)
        refine aw_iload hX dL_acts_533 rfl ?_
        refine aw_bipush hX (24) dL_acts_535 (by decide) ?_
        refine aw_idiv hX dL_acts_537 (by decide) ?_
        refine AW.top (y := nI (v / 24)) (pk_div (a := v) (d := 24) (by omega) (by decide) (by decide)) ?_
        refine aw_iconst hX (4) dL_acts_538 (by decide) ?_
        refine aw_irem hX dL_acts_539 (by decide) ?_
        refine AW.top (y := nI (v / 24 % 4)) (pk_rem (a := v / 24) (d := 4) (by omega) (by decide) (by decide)) ?_
        first | exact tail on (-1) hon (Or.inl rfl) | exact tail on (nI (v / 24 % 4)) hon (Or.inr ⟨v / 24 % 4, rfl, Or.inl (by omega)⟩) | exact tail on (nI 26) hon (Or.inr ⟨26, rfl, Or.inr rfl⟩)
      · have n_525 : v / 4 % 6 = 1 := (nI_eq (a := v / 4 % 6) (b := 1) (by omega) (by omega)).mp c_525
        refine aw_bipush hX (26) dL_acts_528 (by decide) ?_
        refine aw_goto hX 540 dL_acts_530 (by decide) ?_
        first | exact tail on (-1) hon (Or.inl rfl) | exact tail on (nI (v / 24 % 4)) hon (Or.inr ⟨v / 24 % 4, rfl, Or.inl (by omega)⟩) | exact tail on (nI 26) hon (Or.inr ⟨26, rfl, Or.inr rfl⟩)
    · have n_510 : v / 4 % 6 = 0 := (nI_eq (a := v / 4 % 6) (b := 0) (by omega) (by omega)).mp c_510
      refine aw_iconst hX (-1) dL_acts_513 (by decide) ?_
      refine aw_goto hX 540 dL_acts_514 (by decide) ?_
      first | exact tail on (-1) hon (Or.inl rfl) | exact tail on (nI (v / 24 % 4)) hon (Or.inr ⟨v / 24 % 4, rfl, Or.inl (by omega)⟩) | exact tail on (nI 26) hon (Or.inr ⟨26, rfl, Or.inr rfl⟩)
end LACT2
