/-! isSo -/
section LISO
variable {h : HP} {g b lt m : IF} {f : Nat → Int64} {B : FV} {W P o M T : Nat}
theorem fc_0 : fCount B 0 = B.1.1.1 := by rw [fCount, if_pos rfl]
theorem fc_1 : fCount B 1 = B.1.2.2.2 0 := by rw [fCount, if_neg (show ¬ (1 : Int32) = 0 by decide), if_pos rfl]
theorem fc_2 : fCount B 2 = B.1.2.2.2 1 := by rw [fCount, if_neg (show ¬ (2 : Int32) = 0 by decide), if_neg (show ¬ (2 : Int32) = 1 by decide), if_pos rfl]
theorem fc_3 : fCount B 3 = B.1.2.2.2 2 := by rw [fCount, if_neg (show ¬ (3 : Int32) = 0 by decide), if_neg (show ¬ (3 : Int32) = 1 by decide), if_neg (show ¬ (3 : Int32) = 2 by decide), if_pos rfl]
theorem fc_4 : fCount B 4 = nI (BS B).2.2.2.2 := by rw [fCount, if_neg (show ¬ (4 : Int32) = 0 by decide), if_neg (show ¬ (4 : Int32) = 1 by decide), if_neg (show ¬ (4 : Int32) = 2 by decide), if_neg (show ¬ (4 : Int32) = 3 by decide), if_pos rfl]
theorem fc_5 : fCount B 5 = dueN B.1 := by rw [fCount, if_neg (show ¬ (5 : Int32) = 0 by decide), if_neg (show ¬ (5 : Int32) = 1 by decide), if_neg (show ¬ (5 : Int32) = 2 by decide), if_neg (show ¬ (5 : Int32) = 3 by decide), if_neg (show ¬ (5 : Int32) = 4 by decide), if_pos rfl]
theorem fc_6 : fCount B 6 = sumI (fun c => bcF (B.1.1.2.2.2.1 c)) 40 := by rw [fCount, if_neg (show ¬ (6 : Int32) = 0 by decide), if_neg (show ¬ (6 : Int32) = 1 by decide), if_neg (show ¬ (6 : Int32) = 2 by decide), if_neg (show ¬ (6 : Int32) = 3 by decide), if_neg (show ¬ (6 : Int32) = 4 by decide), if_neg (show ¬ (6 : Int32) = 5 by decide), if_pos rfl]
theorem fc_7 : fCount B 7 = sumI (fun c => bcF (B.1.1.2.2.2.2.1 c)) 40 := by rw [fCount, if_neg (show ¬ (7 : Int32) = 0 by decide), if_neg (show ¬ (7 : Int32) = 1 by decide), if_neg (show ¬ (7 : Int32) = 2 by decide), if_neg (show ¬ (7 : Int32) = 3 by decide), if_neg (show ¬ (7 : Int32) = 4 by decide), if_neg (show ¬ (7 : Int32) = 5 by decide), if_neg (show ¬ (7 : Int32) = 6 by decide), if_pos rfl]
theorem fc_8 : fCount B 8 = sumI (fun c => bcF (B.1.1.2.2.1 c ^^^ B.1.1.2.1 c)) 40 := by rw [fCount, if_neg (show ¬ (8 : Int32) = 0 by decide), if_neg (show ¬ (8 : Int32) = 1 by decide), if_neg (show ¬ (8 : Int32) = 2 by decide), if_neg (show ¬ (8 : Int32) = 3 by decide), if_neg (show ¬ (8 : Int32) = 4 by decide), if_neg (show ¬ (8 : Int32) = 5 by decide), if_neg (show ¬ (8 : Int32) = 6 by decide), if_neg (show ¬ (8 : Int32) = 7 by decide), if_pos rfl]
theorem fc_9 : fCount B 9 = B.1.2.1.1 := by rw [fCount, if_neg (show ¬ (9 : Int32) = 0 by decide), if_neg (show ¬ (9 : Int32) = 1 by decide), if_neg (show ¬ (9 : Int32) = 2 by decide), if_neg (show ¬ (9 : Int32) = 3 by decide), if_neg (show ¬ (9 : Int32) = 4 by decide), if_neg (show ¬ (9 : Int32) = 5 by decide), if_neg (show ¬ (9 : Int32) = 6 by decide), if_neg (show ¬ (9 : Int32) = 7 by decide), if_neg (show ¬ (9 : Int32) = 8 by decide), if_pos rfl]
theorem fc_10 : fCount B 10 = B.1.2.1.2.1 := by rw [fCount, if_neg (show ¬ (10 : Int32) = 0 by decide), if_neg (show ¬ (10 : Int32) = 1 by decide), if_neg (show ¬ (10 : Int32) = 2 by decide), if_neg (show ¬ (10 : Int32) = 3 by decide), if_neg (show ¬ (10 : Int32) = 4 by decide), if_neg (show ¬ (10 : Int32) = 5 by decide), if_neg (show ¬ (10 : Int32) = 6 by decide), if_neg (show ¬ (10 : Int32) = 7 by decide), if_neg (show ¬ (10 : Int32) = 8 by decide), if_neg (show ¬ (10 : Int32) = 9 by decide), if_pos rfl]
theorem fc_11 : fCount B 11 = B.1.2.1.2.2.1 := by rw [fCount, if_neg (show ¬ (11 : Int32) = 0 by decide), if_neg (show ¬ (11 : Int32) = 1 by decide), if_neg (show ¬ (11 : Int32) = 2 by decide), if_neg (show ¬ (11 : Int32) = 3 by decide), if_neg (show ¬ (11 : Int32) = 4 by decide), if_neg (show ¬ (11 : Int32) = 5 by decide), if_neg (show ¬ (11 : Int32) = 6 by decide), if_neg (show ¬ (11 : Int32) = 7 by decide), if_neg (show ¬ (11 : Int32) = 8 by decide), if_neg (show ¬ (11 : Int32) = 9 by decide), if_neg (show ¬ (11 : Int32) = 10 by decide), if_pos rfl]
theorem fc_12 : fCount B 12 = nI B.1.2.1.2.2.2.1 := by rw [fCount, if_neg (show ¬ (12 : Int32) = 0 by decide), if_neg (show ¬ (12 : Int32) = 1 by decide), if_neg (show ¬ (12 : Int32) = 2 by decide), if_neg (show ¬ (12 : Int32) = 3 by decide), if_neg (show ¬ (12 : Int32) = 4 by decide), if_neg (show ¬ (12 : Int32) = 5 by decide), if_neg (show ¬ (12 : Int32) = 6 by decide), if_neg (show ¬ (12 : Int32) = 7 by decide), if_neg (show ¬ (12 : Int32) = 8 by decide), if_neg (show ¬ (12 : Int32) = 9 by decide), if_neg (show ¬ (12 : Int32) = 10 by decide), if_neg (show ¬ (12 : Int32) = 11 by decide), if_pos rfl]
theorem col_at (hV : VW B.1 W P o) {c : Nat} (hc : c < W) : (0 ≤ nI c ∧ nI c < B.1.1.1 ∧ nI c < 40) := by
  have h40 := hV.2.1.2
  exact ⟨Int32.not_lt.mp (nI_pos (by omega)), by rw [hV.1]; exact (nI_ltI (by omega) (by omega)).mpr hc, (nI_ltI (a := c) (b := 40) (by omega) (by decide)).mpr (by omega)⟩
theorem fcol (hV : VW B.1 W P o) {c : Nat} (hc : c < W) : fColumn B (nI c) 0 = B.1.1.2.1 c ∧ fColumn B (nI c) 1 = B.1.1.2.2.1 c ∧ fColumn B (nI c) 2 = B.1.1.2.2.2.1 c ∧ fColumn B (nI c) 3 = B.1.1.2.2.2.2.1 c := by
  have h40 := hV.2.1.2
  have hcc : (nI c).toNatClampNeg = c := nI_clamp (by omega)
  have hq := col_at hV hc
  refine ⟨?_, ?_, ?_, ?_⟩
  · rw [fColumn, hcc, if_pos hq, if_pos rfl]
  · rw [fColumn, hcc, if_pos hq, if_neg (show ¬ (1 : Int32) = 0 by decide), if_pos rfl]
  · rw [fColumn, hcc, if_pos hq, if_neg (show ¬ (2 : Int32) = 0 by decide), if_neg (show ¬ (2 : Int32) = 1 by decide), if_pos rfl]
  · rw [fColumn, hcc, if_pos hq, if_neg (show ¬ (3 : Int32) = 0 by decide), if_neg (show ¬ (3 : Int32) = 1 by decide), if_neg (show ¬ (3 : Int32) = 2 by decide), if_pos rfl]
theorem fflp (hV : VW B.1 W P o) {c r : Nat} (hc : c < W) (hr : r < 7) : fFlips B (nI c) (nI r) = B.1.1.2.2.2.2.2 (c * 7 + r) := by
  have h40 := hV.2.1.2
  have hcc : (nI c).toNatClampNeg = c := nI_clamp (by omega)
  have hrc : (nI r).toNatClampNeg = r := nI_clamp (by omega)
  rw [fFlips, hcc, hrc, if_pos ⟨col_at hV hc, Int32.not_lt.mp (nI_pos (by omega)), (nI_ltI (a := r) (b := 7) (by omega) (by decide)).mpr hr⟩]
theorem flet {a i : Nat} (ha : a < 26) (hi : i < 6) (h5 : (BS B).2.1 a ≤ 5) : (¬ (BS B).2.1 a ≤ i → fLetter B (nI a) (nI i) = (BS B).1 (a * 5 + i)) ∧ ((BS B).2.1 a ≤ i → fLetter B (nI a) (nI i) = -1009) := by
  have hac : (nI a).toNatClampNeg = a := nI_clamp (by omega)
  have hic : (nI i).toNatClampNeg = i := nI_clamp (by omega)
  have hq : (0 ≤ nI a ∧ nI a < 26) ∧ 0 ≤ nI i := ⟨⟨Int32.not_lt.mp (nI_pos (by omega)), (nI_ltI (a := a) (b := 26) (by omega) (by decide)).mpr ha⟩, Int32.not_lt.mp (nI_pos (by omega))⟩
  refine ⟨fun q => ?_, fun q => ?_⟩
  · rw [fLetter, hac, hic, if_pos hq, if_pos ((nI_ltI (by omega) (by omega)).mpr (by omega))]
  · rw [fLetter, hac, hic, if_pos hq, if_neg (fun w => absurd ((nI_ltI (by omega) (by omega)).mp w) (by omega))]
theorem fstr {k : Nat} (hk : k < (BS B).2.2.2.2) (h8 : (BS B).2.2.2.2 ≤ 8) : fStrip B (nI k) = nI (TF (BS B) k) := by
  have hkc : (nI k).toNatClampNeg = k := nI_clamp (by omega)
  rw [fStrip, hkc, if_pos ⟨Int32.not_lt.mp (nI_pos (by omega)), (nI_ltI (by omega) (by omega)).mpr hk, (nI_ltI (a := k) (b := 8) (by omega) (by decide)).mpr (by omega)⟩]
theorem fmsg {k i : Nat} (hk : k < (BS B).2.2.2.2) (h8 : (BS B).2.2.2.2 ≤ 8) (hi : i < 2) (hL : (BS B).2.2.2.1 k ≤ 12) : (i < (BS B).2.2.2.1 k → fMessage B (nI k) (nI i) = nI ((BS B).2.2.1 (k * 12 + i))) ∧ (¬ i < (BS B).2.2.2.1 k → fMessage B (nI k) (nI i) = -1009) := by
  have hkc : (nI k).toNatClampNeg = k := nI_clamp (by omega)
  have hic : (nI i).toNatClampNeg = i := nI_clamp (by omega)
  have hq : (0 ≤ nI k ∧ nI k < nI (BS B).2.2.2.2 ∧ nI k < 8) ∧ 0 ≤ nI i := ⟨⟨Int32.not_lt.mp (nI_pos (by omega)), (nI_ltI (by omega) (by omega)).mpr hk, (nI_ltI (a := k) (b := 8) (by omega) (by decide)).mpr (by omega)⟩, Int32.not_lt.mp (nI_pos (by omega))⟩
  refine ⟨fun q => ?_, fun q => ?_⟩
  · rw [fMessage, hkc, hic, if_pos hq, if_pos ((nI_ltI (by omega) (by omega)).mpr q)]
  · rw [fMessage, hkc, hic, if_pos hq, if_neg (fun w => q ((nI_ltI (by omega) (by omega)).mp w))]
theorem fpow {k : Nat} (h1 : 1 ≤ k) (h20 : k ≤ 20) (hT : B.1.2.1.2.2.2.1 < 2 ^ 30) : (k ≤ B.1.2.1.2.2.2.1 → fPower B (nI k) = B.1.2.1.2.2.2.2 ((B.1.2.1.2.2.2.1 - k) % 20)) ∧ (¬ k ≤ B.1.2.1.2.2.2.1 → fPower B (nI k) = -1009) := by
  have hkc : (nI k).toNatClampNeg = k := nI_clamp (by omega)
  have hq : 1 ≤ nI k ∧ nI k ≤ 20 := ⟨(nI_leI (a := 1) (b := k) (by decide) (by omega)).mpr h1, (nI_leI (a := k) (b := 20) (by omega) (by decide)).mpr h20⟩
  refine ⟨fun q => ?_, fun q => ?_⟩
  · rw [fPower, hkc, if_pos hq, if_pos ((nI_leI (by omega) (by omega)).mpr q)]
  · rw [fPower, hkc, if_pos hq, if_neg (fun w => q ((nI_leI (by omega) (by omega)).mp w))]
theorem tL_isSo (l : Launch) (E : EV) (n : Nat) (H : LX g b f lt m h B W P o M T) (hT : T ≤ 10000) : ML_isSo l E n h [.ref 5, .ref 189, .ref 190, .ref 191, .ref 192, .ref 193] (PR (.int 1) h) := by
  obtain ⟨e, eb, H, hl, hm, hs, hT1⟩ := H
  obtain ⟨e0, e1, e2, e3, e4⟩ := id e
  have b0 := eb.1
  obtain ⟨⟨hV, hW14, hZ⟩, ⟨⟨g0, g1, g2, g3⟩, ⟨gM, -⟩, ⟨g4, g5, g6, g7⟩, gp⟩, hb, hf⟩ := id H
  have hWS : WS (BS B) := hV.2.2.1
  have hBO := hV.2.2.2.2.2
  obtain ⟨⟨m0, m4⟩, m5⟩ := id hm
  have z1 : sumI (fun c => bcF (B.1.1.2.2.2.1 c)) 40 = sumI (fun c => bcF (B.1.1.2.2.2.1 c)) W := (sumI_40 (by omega) (fun c h1 h2 => by rw [(hZ c h1 h2).2.2.1]; exact bcF_z)).symm
  have z2 : sumI (fun c => bcF (B.1.1.2.2.2.2.1 c)) 40 = sumI (fun c => bcF (B.1.1.2.2.2.2.1 c)) W := (sumI_40 (by omega) (fun c h1 h2 => by rw [(hZ c h1 h2).2.2.2]; exact bcF_z)).symm
  have z3 : sumI (fun c => bcF (B.1.1.2.2.1 c ^^^ B.1.1.2.1 c)) 40 = sumI (fun c => bcF (B.1.1.2.2.1 c ^^^ B.1.1.2.1 c)) W := (sumI_40 (by omega) (fun c h1 h2 => by rw [(hZ c h1 h2).1, (hZ c h1 h2).2.1]; decide)).symm
  refine AM.intro mf_L_isSo (by simp [Value.category]) (Nat.le_of_ble_eq_true rfl) (fun X hl hE hnm hX => ?_)
  subst hl
  subst hE
  show AW X _ _ 0 0 0 [some (.ref 5), some (.ref 189), some (.ref 190), some (.ref 191), some (.ref 192), some (.ref 193), none, none, none, none, none, none] []
  have loop4 : ∀ (y k : Nat) (x11 : Option Value), 1 ≤ k → k ≤ 21 → 21 - k < y → AW X n h 0 0 530 [some (.ref 5), some (.ref 189), some (.ref 190), some (.ref 191), some (.ref 192), some (.ref 193), some (.int (1)), some (.int (sumI (fun c => bcF (B.1.1.2.2.2.1 c)) W)), some (.int (sumI (fun c => bcF (B.1.1.2.2.2.2.1 c)) W)), some (.int (sumI (fun c => bcF (B.1.1.2.2.1 c ^^^ B.1.1.2.1 c)) W)), some (.int (nI k)), x11] [] := by
    intro y
    induction y with
    | zero => intro k x11 h0 h1 h2; omega
    | succ y ih =>
      intro k x11 h0 h1 h2
      refine aw_iload hX dL_isSo_530 rfl ?_
      refine aw_bipush hX (21) dL_isSo_532 (by decide) ?_
      refine aw_icmp_ge hX 586 dL_isSo_534 (by decide) (fun c_534 => ?_) (fun c_534 => ?_)
      · have n_534 : 21 ≤ k := (nI_leI (a := 21) (b := k) (by omega) (by omega)).mp c_534
        refine aw_iload hX dL_isSo_586 rfl ?_
        refine aw_if_eq hX 628 dL_isSo_588 (by decide) (fun c_588 => ?_) (fun c_588 => ?_)
        · exact absurd c_588 (by decide)
        · refine aw_aload_n hX dL_isSo_591 rfl ?_
          refine aw_bipush hX (6) dL_isSo_592 (by decide) ?_
          refine aw_callVp hX RL rfl (tX9_count _ _ _ eb 6) rfl mf_X9_count mi_X9_count ms_X9_count kl_L_86 (by assumption) rfl rfl (by decide) (Nat.le_of_ble_eq_true rfl) dL_isSo_594 (by first | decide | omega) ?_
          rw [fc_6, z1]
          refine aw_iload hX dL_isSo_597 rfl ?_
          refine aw_icmp_ne hX 628 dL_isSo_599 (by decide) (fun c_599 => ?_) (fun c_599 => ?_)
          · exact absurd rfl c_599
          · refine aw_aload_n hX dL_isSo_602 rfl ?_
            refine aw_bipush hX (7) dL_isSo_603 (by decide) ?_
            refine aw_callVp hX RL rfl (tX9_count _ _ _ eb 7) rfl mf_X9_count mi_X9_count ms_X9_count kl_L_86 (by assumption) rfl rfl (by decide) (Nat.le_of_ble_eq_true rfl) dL_isSo_605 (by first | decide | omega) ?_
            rw [fc_7, z2]
            refine aw_iload hX dL_isSo_608 rfl ?_
            refine aw_icmp_ne hX 628 dL_isSo_610 (by decide) (fun c_610 => ?_) (fun c_610 => ?_)
            · exact absurd rfl c_610
            · refine aw_aload_n hX dL_isSo_613 rfl ?_
              refine aw_bipush hX (8) dL_isSo_614 (by decide) ?_
              refine aw_callVp hX RL rfl (tX9_count _ _ _ eb 8) rfl mf_X9_count mi_X9_count ms_X9_count kl_L_86 (by assumption) rfl rfl (by decide) (Nat.le_of_ble_eq_true rfl) dL_isSo_616 (by first | decide | omega) ?_
              rw [fc_8, z3]
              refine aw_iload hX dL_isSo_619 rfl ?_
              refine aw_icmp_ne hX 628 dL_isSo_621 (by decide) (fun c_621 => ?_) (fun c_621 => ?_)
              · exact absurd rfl c_621
              · refine aw_iconst hX (1) dL_isSo_624 (by decide) ?_
                refine aw_goto hX 629 dL_isSo_625 (by decide) ?_
                exact aw_zret hX rfl (by first | exact Or.inl rfl | exact Or.inr rfl | assumption) rfl rfl rfl dL_isSo_629 (by exact ⟨rfl, rfl⟩)
      · have n_534 : ¬ 21 ≤ k := fun q_ => c_534 ((nI_leI (a := 21) (b := k) (by omega) (by omega)).mpr q_)
        refine aw_iload hX dL_isSo_537 rfl ?_
        refine aw_if_eq hX 586 dL_isSo_539 (by decide) (fun c_539 => ?_) (fun c_539 => ?_)
        · exact absurd c_539 (by decide)
        · obtain ⟨q1, q2⟩ := fpow (B := B) h0 (by omega) (by omega)
          refine aw_aload_n hX dL_isSo_542 rfl ?_
          refine aw_iload hX dL_isSo_543 rfl ?_
          refine aw_callVp hX RL rfl (tX9_power _ _ _ eb (by omega) _) rfl mf_X9_power mi_X9_power ms_X9_power kl_L_103 (by assumption) rfl rfl (by decide) (Nat.le_of_ble_eq_true rfl) dL_isSo_545 (by first | decide | omega) ?_
          refine aw_iload hX dL_isSo_548 rfl ?_
          refine aw_aload_n hX dL_isSo_550 rfl ?_
          refine aw_bipush hX (7) dL_isSo_551 (by decide) ?_
          refine aw_ialdN hX (7) (by assumption) rfl (by decide) (by first | decide | assumption) dL_isSo_553 ?_
          rw [g7]
          refine aw_icmp_le hX 563 dL_isSo_554 (by decide) (fun c_554 => ?_) (fun c_554 => ?_)
          · have n_554 : k ≤ B.1.2.1.2.2.2.1 := (nI_leI (a := k) (b := B.1.2.1.2.2.2.1) (by omega) (by omega)).mp c_554
            refine aw_aload_n hX dL_isSo_563 rfl ?_
            refine aw_bipush hX (7) dL_isSo_564 (by decide) ?_
            refine aw_iload hX dL_isSo_566 rfl ?_
            refine aw_iadd hX dL_isSo_568 ?_
            refine aw_ialdN hX (7 + k) (by assumption) (nI_add 7 k) (by omega) (by first | decide | assumption) dL_isSo_569 ?_
            refine aw_icmp_ne hX 577 dL_isSo_570 (by decide) (fun c_570 => ?_) (fun c_570 => ?_)
            · first | exact absurd ((q1 n_554).trans (gp k h0 (by omega) n_554).symm) c_570 | exact absurd (q2 n_554) c_570
            · refine aw_iconst hX (1) dL_isSo_573 (by decide) ?_
              refine aw_goto hX 578 dL_isSo_574 (by decide) ?_
              refine aw_istore hX dL_isSo_578 (Nat.le_of_ble_eq_true rfl) ?_
              refine aw_iinc hX (nI (k + 1)) dL_isSo_580 rfl (nI_1 k) ?_
              refine aw_goto hX 530 dL_isSo_583 (by decide) ?_
              exact ih (k + 1) _ (by omega) (by omega) (by omega)
          · have n_554 : ¬ k ≤ B.1.2.1.2.2.2.1 := fun q_ => c_554 ((nI_leI (a := k) (b := B.1.2.1.2.2.2.1) (by omega) (by omega)).mpr q_)
            refine aw_sipush hX (-1009) dL_isSo_557 (by decide) ?_
            refine aw_goto hX 570 dL_isSo_560 (by decide) ?_
            refine aw_icmp_ne hX 577 dL_isSo_570 (by decide) (fun c_570 => ?_) (fun c_570 => ?_)
            · first | exact absurd ((q1 n_554).trans (gp k h0 (by omega) n_554).symm) c_570 | exact absurd (q2 n_554) c_570
            · refine aw_iconst hX (1) dL_isSo_573 (by decide) ?_
              refine aw_goto hX 578 dL_isSo_574 (by decide) ?_
              refine aw_istore hX dL_isSo_578 (Nat.le_of_ble_eq_true rfl) ?_
              refine aw_iinc hX (nI (k + 1)) dL_isSo_580 rfl (nI_1 k) ?_
              refine aw_goto hX 530 dL_isSo_583 (by decide) ?_
              exact ih (k + 1) _ (by omega) (by omega) (by omega)
  have loop3 : ∀ (y k : Nat) (x11 : Option Value), k ≤ (BS B).2.2.2.2 → (BS B).2.2.2.2 - k < y → AW X n h 0 0 423 [some (.ref 5), some (.ref 189), some (.ref 190), some (.ref 191), some (.ref 192), some (.ref 193), some (.int (1)), some (.int (sumI (fun c => bcF (B.1.1.2.2.2.1 c)) W)), some (.int (sumI (fun c => bcF (B.1.1.2.2.2.2.1 c)) W)), some (.int (sumI (fun c => bcF (B.1.1.2.2.1 c ^^^ B.1.1.2.1 c)) W)), some (.int (nI k)), x11] [] := by
    intro y
    induction y with
    | zero => intro k x11 h1 h2; omega
    | succ y ih =>
      intro k x11 h1 h2
      refine aw_iload hX dL_isSo_423 rfl ?_
      refine aw_aload hX dL_isSo_425 rfl ?_
      refine aw_bipush hX (60) dL_isSo_427 (by decide) ?_
      refine aw_ialdN hX (60) (by assumption) rfl (by decide) (by first | decide | assumption) dL_isSo_429 ?_
      rw [m0]
      refine aw_icmp_ge hX 527 dL_isSo_430 (by decide) (fun c_430 => ?_) (fun c_430 => ?_)
      · have n_430 : (BS B).2.2.2.2 ≤ k := (nI_leI (a := (BS B).2.2.2.2) (b := k) (by omega) (by omega)).mp c_430
        refine aw_iconst hX (1) dL_isSo_527 (by decide) ?_
        refine aw_istore hX dL_isSo_528 (Nat.le_of_ble_eq_true rfl) ?_
        exact loop4 21 1 _ (by decide) (by decide) (by decide)
      · have n_430 : ¬ (BS B).2.2.2.2 ≤ k := fun q_ => c_430 ((nI_leI (a := (BS B).2.2.2.2) (b := k) (by omega) (by omega)).mpr q_)
        refine aw_iload hX dL_isSo_433 rfl ?_
        refine aw_if_eq hX 527 dL_isSo_435 (by decide) (fun c_435 => ?_) (fun c_435 => ?_)
        · exact absurd c_435 (by decide)
        · have hk : k < (BS B).2.2.2.2 := by omega
          obtain ⟨⟨q1, q2, q3⟩, q4⟩ := m5 k hk
          obtain ⟨r1, -⟩ := fmsg (B := B) (i := 0) hk (by omega) (by decide) (by omega)
          obtain ⟨r2, r3⟩ := fmsg (B := B) (i := 1) hk (by omega) (by decide) (by omega)
          refine aw_aload_n hX dL_isSo_438 rfl ?_
          refine aw_iload hX dL_isSo_439 rfl ?_
          refine aw_callVp hX RL rfl (tX9_strip _ _ _ eb hWS _) rfl mf_X9_strip mi_X9_strip ms_X9_strip kl_L_98 (by assumption) rfl rfl (by decide) (Nat.le_of_ble_eq_true rfl) dL_isSo_441 (by first | decide | omega) ?_
          rw [fstr hk (by omega)]
          refine aw_aload hX dL_isSo_444 rfl ?_
          refine aw_aload hX dL_isSo_446 rfl ?_
          refine aw_iload hX dL_isSo_448 rfl ?_
          refine aw_callSp hX RL rfl (tL_strip _ _ _ e3 e4 hl hm hk) rfl mf_L_strip mt_L_strip kl_L_9 rfl (by decide) (Nat.le_of_ble_eq_true rfl) dL_isSo_450 (by first | decide | omega) ?_
          refine aw_icmp_ne hX 518 dL_isSo_453 (by decide) (fun c_453 => ?_) (fun c_453 => ?_)
          · exact absurd rfl c_453
          · refine aw_aload_n hX dL_isSo_456 rfl ?_
            refine aw_iload hX dL_isSo_457 rfl ?_
            refine aw_iconst hX (0) dL_isSo_459 (by decide) ?_
            refine aw_callVp hX RL rfl (tX9_message _ _ _ eb hWS _ 0) rfl mf_X9_message mi_X9_message ms_X9_message kl_L_100 (by assumption) rfl rfl (by decide) (Nat.le_of_ble_eq_true rfl) dL_isSo_460 (by first | decide | omega) ?_
            rw [show fMessage B (nI k) 0 = nI ((BS B).2.2.1 (k * 12 + 0)) from r1 (by omega)]
            refine aw_aload hX dL_isSo_463 rfl ?_
            refine aw_bipush hX (13) dL_isSo_465 (by decide) ?_
            refine aw_iload hX dL_isSo_467 rfl ?_
            refine aw_imul hX dL_isSo_469 ?_
            refine aw_iconst hX (1) dL_isSo_470 (by decide) ?_
            refine aw_iadd hX dL_isSo_471 ?_
            refine aw_ialdN hX (13 * k + 1 + 0) (by assumption) (by rw [ix13, nI_1]) (by omega) (by first | decide | assumption) dL_isSo_472 ?_
            rw [(q4 0 (by omega)).1]
            refine aw_icmp_ne hX 518 dL_isSo_473 (by decide) (fun c_473 => ?_) (fun c_473 => ?_)
            · exact absurd rfl c_473
            · refine aw_aload_n hX dL_isSo_476 rfl ?_
              refine aw_iload hX dL_isSo_477 rfl ?_
              refine aw_iconst hX (1) dL_isSo_479 (by decide) ?_
              refine aw_callVp hX RL rfl (tX9_message _ _ _ eb hWS _ 1) rfl mf_X9_message mi_X9_message ms_X9_message kl_L_100 (by assumption) rfl rfl (by decide) (Nat.le_of_ble_eq_true rfl) dL_isSo_480 (by first | decide | omega) ?_
              refine aw_aload hX dL_isSo_483 rfl ?_
              refine aw_bipush hX (13) dL_isSo_485 (by decide) ?_
              refine aw_iload hX dL_isSo_487 rfl ?_
              refine aw_imul hX dL_isSo_489 ?_
              refine aw_ialdN hX (13 * k) (by assumption) (ix13 k) (by omega) (by first | decide | assumption) dL_isSo_490 ?_
              rw [q1]
              refine aw_iconst hX (1) dL_isSo_491 (by decide) ?_
              refine aw_icmp_ne hX 501 dL_isSo_492 (by decide) (fun c_492 => ?_) (fun c_492 => ?_)
              · have n_492 : ¬ (BS B).2.2.2.1 k = 1 := fun q_ => c_492 ((nI_eq (a := (BS B).2.2.2.1 k) (b := 1) (by omega) (by omega)).mpr q_)
                refine aw_aload hX dL_isSo_501 rfl ?_
                refine aw_bipush hX (13) dL_isSo_503 (by decide) ?_
                refine aw_iload hX dL_isSo_505 rfl ?_
                refine aw_imul hX dL_isSo_507 ?_
                refine aw_iconst hX (2) dL_isSo_508 (by decide) ?_
                refine aw_iadd hX dL_isSo_509 ?_
                refine aw_ialdN hX (13 * k + 1 + 1) (by assumption) (by rw [ix13]; exact nI_add _ 2) (by omega) (by first | decide | assumption) dL_isSo_510 ?_
                rw [(q4 1 (by omega)).1]
                refine aw_icmp_ne hX 518 dL_isSo_511 (by decide) (fun c_511 => ?_) (fun c_511 => ?_)
                · first | exact absurd (r3 (by omega)) c_511 | exact absurd (r2 (by omega)) c_511
                · refine aw_iconst hX (1) dL_isSo_514 (by decide) ?_
                  refine aw_goto hX 519 dL_isSo_515 (by decide) ?_
                  refine aw_istore hX dL_isSo_519 (Nat.le_of_ble_eq_true rfl) ?_
                  refine aw_iinc hX (nI (k + 1)) dL_isSo_521 rfl (nI_1 k) ?_
                  refine aw_goto hX 423 dL_isSo_524 (by decide) ?_
                  exact ih (k + 1) _ (by omega) (by omega)
              · have n_492 : (BS B).2.2.2.1 k = 1 := (nI_eq (a := (BS B).2.2.2.1 k) (b := 1) (by omega) (by omega)).mp c_492
                refine aw_sipush hX (-1009) dL_isSo_495 (by decide) ?_
                refine aw_goto hX 511 dL_isSo_498 (by decide) ?_
                refine aw_icmp_ne hX 518 dL_isSo_511 (by decide) (fun c_511 => ?_) (fun c_511 => ?_)
                · first | exact absurd (r3 (by omega)) c_511 | exact absurd (r2 (by omega)) c_511
                · refine aw_iconst hX (1) dL_isSo_514 (by decide) ?_
                  refine aw_goto hX 519 dL_isSo_515 (by decide) ?_
                  refine aw_istore hX dL_isSo_519 (Nat.le_of_ble_eq_true rfl) ?_
                  refine aw_iinc hX (nI (k + 1)) dL_isSo_521 rfl (nI_1 k) ?_
                  refine aw_goto hX 423 dL_isSo_524 (by decide) ?_
                  exact ih (k + 1) _ (by omega) (by omega)
  have loop2 : ∀ (y k : Nat) (x11 : Option Value), k ≤ 24 → 24 - k < y → AW X n h 0 0 337 [some (.ref 5), some (.ref 189), some (.ref 190), some (.ref 191), some (.ref 192), some (.ref 193), some (.int (1)), some (.int (sumI (fun c => bcF (B.1.1.2.2.2.1 c)) W)), some (.int (sumI (fun c => bcF (B.1.1.2.2.2.2.1 c)) W)), some (.int (sumI (fun c => bcF (B.1.1.2.2.1 c ^^^ B.1.1.2.1 c)) W)), some (.int (nI k)), x11] [] := by
    intro y
    induction y with
    | zero => intro k x11 h1 h2; omega
    | succ y ih =>
      intro k x11 h1 h2
      refine aw_iload hX dL_isSo_337 rfl ?_
      refine aw_bipush hX (24) dL_isSo_339 (by decide) ?_
      refine aw_icmp_ge hX 420 dL_isSo_341 (by decide) (fun c_341 => ?_) (fun c_341 => ?_)
      · have n_341 : 24 ≤ k := (nI_leI (a := 24) (b := k) (by omega) (by omega)).mp c_341
        refine aw_iconst hX (0) dL_isSo_420 (by decide) ?_
        refine aw_istore hX dL_isSo_421 (Nat.le_of_ble_eq_true rfl) ?_
        exact loop3 ((BS B).2.2.2.2 + 1) 0 _ (Nat.zero_le _) (by omega)
      · have n_341 : ¬ 24 ≤ k := fun q_ => c_341 ((nI_leI (a := 24) (b := k) (by omega) (by omega)).mpr q_)
        refine aw_iload hX dL_isSo_344 rfl ?_
        refine aw_if_eq hX 420 dL_isSo_346 (by decide) (fun c_346 => ?_) (fun c_346 => ?_)
        · exact absurd c_346 (by decide)
        · refine aw_iload hX dL_isSo_349 rfl ?_
          refine aw_bipush hX (6) dL_isSo_351 (by decide) ?_
          refine aw_irem hX dL_isSo_353 (by decide) ?_
          refine AW.top (y := nI (k % 6)) (pk_rem (a := k) (d := 6) (by omega) (by decide) (by decide)) ?_
          refine aw_iconst hX (5) dL_isSo_354 (by decide) ?_
          refine aw_icmp_eq hX 407 dL_isSo_355 (by decide) (fun c_355 => ?_) (fun c_355 => ?_)
          · have n_355 : k % 6 = 5 := (nI_eq (a := k % 6) (b := 5) (by omega) (by omega)).mp c_355
            refine aw_iconst hX (1) dL_isSo_407 (by decide) ?_
            refine aw_goto hX 412 dL_isSo_408 (by decide) ?_
            refine aw_istore hX dL_isSo_412 (Nat.le_of_ble_eq_true rfl) ?_
            refine aw_iinc hX (nI (k + 1)) dL_isSo_414 rfl (nI_1 k) ?_
            refine aw_goto hX 337 dL_isSo_417 (by decide) ?_
            exact ih (k + 1) _ (by omega) (by omega)
          · have n_355 : ¬ k % 6 = 5 := fun q_ => c_355 ((nI_eq (a := k % 6) (b := 5) (by omega) (by omega)).mpr q_)
            have ha : k / 6 < 4 := by omega
            have h5 := hWS.2.1 (k / 6) (by omega)
            obtain ⟨l1, l2⟩ := hl (k / 6) ha
            obtain ⟨q1, q2⟩ := flet (B := B) (a := k / 6) (i := k % 6) (by omega) (by omega) h5
            refine aw_aload_n hX dL_isSo_358 rfl ?_
            refine aw_iload hX dL_isSo_359 rfl ?_
            refine aw_bipush hX (6) dL_isSo_361 (by decide) ?_
            refine aw_idiv hX dL_isSo_363 (by decide) ?_
            refine AW.top (y := nI (k / 6)) (pk_div (a := k) (d := 6) (by omega) (by decide) (by decide)) ?_
            refine aw_iload hX dL_isSo_364 rfl ?_
            refine aw_bipush hX (6) dL_isSo_366 (by decide) ?_
            refine aw_irem hX dL_isSo_368 (by decide) ?_
            refine AW.top (y := nI (k % 6)) (pk_rem (a := k) (d := 6) (by omega) (by decide) (by decide)) ?_
            refine aw_callVp hX RL rfl (tX9_letter _ _ _ eb hWS _ _) rfl mf_X9_letter mi_X9_letter ms_X9_letter kl_L_95 (by assumption) rfl rfl (by decide) (Nat.le_of_ble_eq_true rfl) dL_isSo_369 (by first | decide | omega) ?_
            refine aw_iload hX dL_isSo_372 rfl ?_
            refine aw_bipush hX (6) dL_isSo_374 (by decide) ?_
            refine aw_irem hX dL_isSo_376 (by decide) ?_
            refine AW.top (y := nI (k % 6)) (pk_rem (a := k) (d := 6) (by omega) (by decide) (by decide)) ?_
            refine aw_aload hX dL_isSo_377 rfl ?_
            refine aw_bipush hX (6) dL_isSo_379 (by decide) ?_
            refine aw_iload hX dL_isSo_381 rfl ?_
            refine aw_bipush hX (6) dL_isSo_383 (by decide) ?_
            refine aw_idiv hX dL_isSo_385 (by decide) ?_
            refine AW.top (y := nI (k / 6)) (pk_div (a := k) (d := 6) (by omega) (by decide) (by decide)) ?_
            refine aw_imul hX dL_isSo_386 ?_
            refine aw_ialdN hX (6 * (k / 6)) (by assumption) (ix6 _) (by omega) (by first | decide | assumption) dL_isSo_387 ?_
            rw [l1]
            refine aw_icmp_ge hX 401 dL_isSo_388 (by decide) (fun c_388 => ?_) (fun c_388 => ?_)
            · have n_388 : (BS B).2.1 (k / 6) ≤ k % 6 := (nI_leI (a := (BS B).2.1 (k / 6)) (b := k % 6) (by omega) (by omega)).mp c_388
              refine aw_sipush hX (-1009) dL_isSo_401 (by decide) ?_
              refine aw_icmp_ne hX 411 dL_isSo_404 (by decide) (fun c_404 => ?_) (fun c_404 => ?_)
              · first | exact absurd (q2 n_388) c_404 | exact absurd ((q1 n_388).trans ((l2 (k % 6) (by omega)).symm.trans (congrArg lt (by omega)))) c_404
              · refine aw_iconst hX (1) dL_isSo_407 (by decide) ?_
                refine aw_goto hX 412 dL_isSo_408 (by decide) ?_
                refine aw_istore hX dL_isSo_412 (Nat.le_of_ble_eq_true rfl) ?_
                refine aw_iinc hX (nI (k + 1)) dL_isSo_414 rfl (nI_1 k) ?_
                refine aw_goto hX 337 dL_isSo_417 (by decide) ?_
                exact ih (k + 1) _ (by omega) (by omega)
            · have n_388 : ¬ (BS B).2.1 (k / 6) ≤ k % 6 := fun q_ => c_388 ((nI_leI (a := (BS B).2.1 (k / 6)) (b := k % 6) (by omega) (by omega)).mpr q_)
              refine aw_aload hX dL_isSo_391 rfl ?_
              refine aw_iload hX dL_isSo_393 rfl ?_
              refine aw_iconst hX (1) dL_isSo_395 (by decide) ?_
              refine aw_iadd hX dL_isSo_396 ?_
              refine aw_ialdN hX (k + 1) (by assumption) (nI_1 k) (by omega) (by first | decide | assumption) dL_isSo_397 ?_
              refine aw_goto hX 404 dL_isSo_398 (by decide) ?_
              refine aw_icmp_ne hX 411 dL_isSo_404 (by decide) (fun c_404 => ?_) (fun c_404 => ?_)
              · first | exact absurd (q2 n_388) c_404 | exact absurd ((q1 n_388).trans ((l2 (k % 6) (by omega)).symm.trans (congrArg lt (by omega)))) c_404
              · refine aw_iconst hX (1) dL_isSo_407 (by decide) ?_
                refine aw_goto hX 412 dL_isSo_408 (by decide) ?_
                refine aw_istore hX dL_isSo_412 (Nat.le_of_ble_eq_true rfl) ?_
                refine aw_iinc hX (nI (k + 1)) dL_isSo_414 rfl (nI_1 k) ?_
                refine aw_goto hX 337 dL_isSo_417 (by decide) ?_
                exact ih (k + 1) _ (by omega) (by omega)
  have loop1 : ∀ (y c : Nat) (x11 : Option Value), c ≤ W → W - c < y → AW X n h 0 0 139 [some (.ref 5), some (.ref 189), some (.ref 190), some (.ref 191), some (.ref 192), some (.ref 193), some (.int (1)), some (.int (sumI (fun c => bcF (B.1.1.2.2.2.1 c)) c)), some (.int (sumI (fun c => bcF (B.1.1.2.2.2.2.1 c)) c)), some (.int (sumI (fun c => bcF (B.1.1.2.2.1 c ^^^ B.1.1.2.1 c)) c)), some (.int (nI c)), x11] [] := by
    intro y
    induction y with
    | zero => intro c x11 h1 h2; omega
    | succ y ih =>
      intro c x11 h1 h2
      have inner : ∀ (y r : Nat), c < W → r ≤ 7 → 7 - r < y → AW X n h 0 0 277 [some (.ref 5), some (.ref 189), some (.ref 190), some (.ref 191), some (.ref 192), some (.ref 193), some (.int (1)), some (.int (sumI (fun c => bcF (B.1.1.2.2.2.1 c)) (c + 1))), some (.int (sumI (fun c => bcF (B.1.1.2.2.2.2.1 c)) (c + 1))), some (.int (sumI (fun c => bcF (B.1.1.2.2.1 c ^^^ B.1.1.2.1 c)) (c + 1))), some (.int (nI c)), some (.int (nI r))] [] := by
        intro y
        induction y with
        | zero => intro r hc h1 h2; omega
        | succ y ih2 =>
          intro r hc h1 h2
          obtain ⟨yy, hfy, hy⟩ := hf c hc
          refine aw_iload hX dL_isSo_277 rfl ?_
          refine aw_bipush hX (7) dL_isSo_279 (by decide) ?_
          refine aw_icmp_ge hX 328 dL_isSo_281 (by decide) (fun c_281 => ?_) (fun c_281 => ?_)
          · have n_281 : 7 ≤ r := (nI_leI (a := 7) (b := r) (by omega) (by omega)).mp c_281
            refine aw_iinc hX (nI (c + 1)) dL_isSo_328 rfl (nI_1 c) ?_
            refine aw_goto hX 139 dL_isSo_331 (by decide) ?_
            exact ih (c + 1) _ (by omega) (by omega)
          · have n_281 : ¬ 7 ≤ r := fun q_ => c_281 ((nI_leI (a := 7) (b := r) (by omega) (by omega)).mpr q_)
            refine aw_iload hX dL_isSo_284 rfl ?_
            refine aw_if_eq hX 319 dL_isSo_286 (by decide) (fun c_286 => ?_) (fun c_286 => ?_)
            · exact absurd c_286 (by decide)
            · refine aw_aload_n hX dL_isSo_289 rfl ?_
              refine aw_iload hX dL_isSo_290 rfl ?_
              refine aw_iload hX dL_isSo_292 rfl ?_
              refine aw_callVp hX RL rfl (tX9_flips _ _ _ eb _ _) rfl mf_X9_flips mi_X9_flips ms_X9_flips kl_L_92 (by assumption) rfl rfl (by decide) (Nat.le_of_ble_eq_true rfl) dL_isSo_294 (by first | decide | omega) ?_
              rw [fflp hV hc (by omega)]
              refine aw_aload_n hX dL_isSo_297 rfl ?_
              refine aw_iload hX dL_isSo_298 rfl ?_
              refine aw_laldN hX (c) (by assumption) rfl (by omega) (by first | decide | assumption) dL_isSo_300 ?_
              rw [hfy]
              refine aw_bipush hX (8) dL_isSo_301 (by decide) ?_
              refine aw_iload hX dL_isSo_303 rfl ?_
              refine aw_imul hX dL_isSo_305 ?_
              refine aw_lshr hX dL_isSo_306 ?_
              refine aw_ldc2 hX kk_L_19 dL_isSo_307 ?_
              refine aw_land hX dL_isSo_310 ?_
              rw [ff_get (YF.le hy) (by omega)]
              refine aw_l2i hX dL_isSo_311 ?_
              refine AW.top (y := nI (yy r)) (lN_i _) ?_
              refine aw_icmp_ne hX 319 dL_isSo_312 (by decide) (fun c_312 => ?_) (fun c_312 => ?_)
              · exact absurd (hy r (by omega)).1 c_312
              · refine aw_iconst hX (1) dL_isSo_315 (by decide) ?_
                refine aw_goto hX 320 dL_isSo_316 (by decide) ?_
                refine aw_istore hX dL_isSo_320 (Nat.le_of_ble_eq_true rfl) ?_
                refine aw_iinc hX (nI (r + 1)) dL_isSo_322 rfl (nI_1 r) ?_
                refine aw_goto hX 277 dL_isSo_325 (by decide) ?_
                exact ih2 (r + 1) hc (by omega) (by omega)
      refine aw_iload hX dL_isSo_139 rfl ?_
      refine aw_aload_n hX dL_isSo_141 rfl ?_
      refine aw_iconst hX (0) dL_isSo_142 (by decide) ?_
      refine aw_ialdN hX (0) (by assumption) rfl (by decide) (by first | decide | assumption) dL_isSo_143 ?_
      rw [g0]
      refine aw_icmp_ge hX 334 dL_isSo_144 (by decide) (fun c_144 => ?_) (fun c_144 => ?_)
      · have n_144 : W ≤ c := (nI_leI (a := W) (b := c) (by omega) (by omega)).mp c_144
        have hcW : c = W := by omega
        subst hcW
        refine aw_iconst hX (0) dL_isSo_334 (by decide) ?_
        refine aw_istore hX dL_isSo_335 (Nat.le_of_ble_eq_true rfl) ?_
        exact loop2 25 0 _ (by decide) (by decide)
      · have n_144 : ¬ W ≤ c := fun q_ => c_144 ((nI_leI (a := W) (b := c) (by omega) (by omega)).mpr q_)
        refine aw_iload hX dL_isSo_147 rfl ?_
        refine aw_if_eq hX 334 dL_isSo_149 (by decide) (fun c_149 => ?_) (fun c_149 => ?_)
        · exact absurd c_149 (by decide)
        · have hc : c < W := by omega
          obtain ⟨b1, b2, b3, b4⟩ := hb c hc
          obtain ⟨w1, w2, w3, w4⟩ := hBO c (by omega)
          obtain ⟨k1, k2, k3, k4⟩ := fcol hV hc
          refine aw_iload hX dL_isSo_152 rfl ?_
          refine aw_aload_n hX dL_isSo_154 rfl ?_
          refine aw_bipush hX (32) dL_isSo_155 (by decide) ?_
          refine aw_iload hX dL_isSo_157 rfl ?_
          refine aw_iadd hX dL_isSo_159 ?_
          refine aw_ialdN hX (32 + c) (by assumption) (ix32 c) (by omega) (by first | decide | assumption) dL_isSo_160 ?_
          rw [b3]
          refine aw_callSp hX RL rfl (tL_bits _ _ _ _ w3) rfl mf_L_bits mt_L_bits kl_L_15 rfl (by decide) (Nat.le_of_ble_eq_true rfl) dL_isSo_161 (by first | decide | omega) ?_
          refine aw_iadd hX dL_isSo_164 ?_
          refine aw_istore hX dL_isSo_165 (Nat.le_of_ble_eq_true rfl) ?_
          refine aw_iload hX dL_isSo_167 rfl ?_
          refine aw_aload_n hX dL_isSo_169 rfl ?_
          refine aw_bipush hX (48) dL_isSo_170 (by decide) ?_
          refine aw_iload hX dL_isSo_172 rfl ?_
          refine aw_iadd hX dL_isSo_174 ?_
          refine aw_ialdN hX (48 + c) (by assumption) (ix48 c) (by omega) (by first | decide | assumption) dL_isSo_175 ?_
          rw [b4]
          refine aw_callSp hX RL rfl (tL_bits _ _ _ _ w4) rfl mf_L_bits mt_L_bits kl_L_15 rfl (by decide) (Nat.le_of_ble_eq_true rfl) dL_isSo_176 (by first | decide | omega) ?_
          refine aw_iadd hX dL_isSo_179 ?_
          refine aw_istore hX dL_isSo_180 (Nat.le_of_ble_eq_true rfl) ?_
          refine aw_iload hX dL_isSo_182 rfl ?_
          refine aw_aload_n hX dL_isSo_184 rfl ?_
          refine aw_iload hX dL_isSo_185 rfl ?_
          refine aw_ialdN hX (c) (by assumption) rfl (by omega) (by first | decide | assumption) dL_isSo_187 ?_
          rw [b1]
          refine aw_aload_n hX dL_isSo_188 rfl ?_
          refine aw_bipush hX (16) dL_isSo_189 (by decide) ?_
          refine aw_iload hX dL_isSo_191 rfl ?_
          refine aw_iadd hX dL_isSo_193 ?_
          refine aw_ialdN hX (16 + c) (by assumption) (ix16 c) (by omega) (by first | decide | assumption) dL_isSo_194 ?_
          rw [b2]
          refine aw_ixor hX dL_isSo_195 ?_
          rw [i_xor_comm]
          refine aw_callSp hX RL rfl (tL_bits _ _ _ _ (w2.xor w1)) rfl mf_L_bits mt_L_bits kl_L_15 rfl (by decide) (Nat.le_of_ble_eq_true rfl) dL_isSo_196 (by first | decide | omega) ?_
          refine aw_iadd hX dL_isSo_199 ?_
          refine aw_istore hX dL_isSo_200 (Nat.le_of_ble_eq_true rfl) ?_
          refine aw_aload_n hX dL_isSo_202 rfl ?_
          refine aw_iload hX dL_isSo_203 rfl ?_
          refine aw_iconst hX (0) dL_isSo_205 (by decide) ?_
          refine aw_callVp hX RL rfl (tX9_column _ _ _ eb _ 0) rfl mf_X9_column mi_X9_column ms_X9_column kl_L_89 (by assumption) rfl rfl (by decide) (Nat.le_of_ble_eq_true rfl) dL_isSo_206 (by first | decide | omega) ?_
          rw [k1]
          refine aw_aload_n hX dL_isSo_209 rfl ?_
          refine aw_iload hX dL_isSo_210 rfl ?_
          refine aw_ialdN hX (c) (by assumption) rfl (by omega) (by first | decide | assumption) dL_isSo_212 ?_
          rw [b1]
          refine aw_icmp_ne hX 271 dL_isSo_213 (by decide) (fun c_213 => ?_) (fun c_213 => ?_)
          · exact absurd rfl c_213
          · refine aw_aload_n hX dL_isSo_216 rfl ?_
            refine aw_iload hX dL_isSo_217 rfl ?_
            refine aw_iconst hX (1) dL_isSo_219 (by decide) ?_
            refine aw_callVp hX RL rfl (tX9_column _ _ _ eb _ 1) rfl mf_X9_column mi_X9_column ms_X9_column kl_L_89 (by assumption) rfl rfl (by decide) (Nat.le_of_ble_eq_true rfl) dL_isSo_220 (by first | decide | omega) ?_
            rw [k2]
            refine aw_aload_n hX dL_isSo_223 rfl ?_
            refine aw_bipush hX (16) dL_isSo_224 (by decide) ?_
            refine aw_iload hX dL_isSo_226 rfl ?_
            refine aw_iadd hX dL_isSo_228 ?_
            refine aw_ialdN hX (16 + c) (by assumption) (ix16 c) (by omega) (by first | decide | assumption) dL_isSo_229 ?_
            rw [b2]
            refine aw_icmp_ne hX 271 dL_isSo_230 (by decide) (fun c_230 => ?_) (fun c_230 => ?_)
            · exact absurd rfl c_230
            · refine aw_aload_n hX dL_isSo_233 rfl ?_
              refine aw_iload hX dL_isSo_234 rfl ?_
              refine aw_iconst hX (2) dL_isSo_236 (by decide) ?_
              refine aw_callVp hX RL rfl (tX9_column _ _ _ eb _ 2) rfl mf_X9_column mi_X9_column ms_X9_column kl_L_89 (by assumption) rfl rfl (by decide) (Nat.le_of_ble_eq_true rfl) dL_isSo_237 (by first | decide | omega) ?_
              rw [k3]
              refine aw_aload_n hX dL_isSo_240 rfl ?_
              refine aw_bipush hX (32) dL_isSo_241 (by decide) ?_
              refine aw_iload hX dL_isSo_243 rfl ?_
              refine aw_iadd hX dL_isSo_245 ?_
              refine aw_ialdN hX (32 + c) (by assumption) (ix32 c) (by omega) (by first | decide | assumption) dL_isSo_246 ?_
              rw [b3]
              refine aw_icmp_ne hX 271 dL_isSo_247 (by decide) (fun c_247 => ?_) (fun c_247 => ?_)
              · exact absurd rfl c_247
              · refine aw_aload_n hX dL_isSo_250 rfl ?_
                refine aw_iload hX dL_isSo_251 rfl ?_
                refine aw_iconst hX (3) dL_isSo_253 (by decide) ?_
                refine aw_callVp hX RL rfl (tX9_column _ _ _ eb _ 3) rfl mf_X9_column mi_X9_column ms_X9_column kl_L_89 (by assumption) rfl rfl (by decide) (Nat.le_of_ble_eq_true rfl) dL_isSo_254 (by first | decide | omega) ?_
                rw [k4]
                refine aw_aload_n hX dL_isSo_257 rfl ?_
                refine aw_bipush hX (48) dL_isSo_258 (by decide) ?_
                refine aw_iload hX dL_isSo_260 rfl ?_
                refine aw_iadd hX dL_isSo_262 ?_
                refine aw_ialdN hX (48 + c) (by assumption) (ix48 c) (by omega) (by first | decide | assumption) dL_isSo_263 ?_
                rw [b4]
                refine aw_icmp_ne hX 271 dL_isSo_264 (by decide) (fun c_264 => ?_) (fun c_264 => ?_)
                · exact absurd rfl c_264
                · refine aw_iconst hX (1) dL_isSo_267 (by decide) ?_
                  refine aw_goto hX 272 dL_isSo_268 (by decide) ?_
                  refine aw_istore hX dL_isSo_272 (Nat.le_of_ble_eq_true rfl) ?_
                  refine aw_iconst hX (0) dL_isSo_274 (by decide) ?_
                  refine aw_istore hX dL_isSo_275 (Nat.le_of_ble_eq_true rfl) ?_
                  exact inner 8 0 hc (by decide) (by decide)
  refine aw_aload_n hX dL_isSo_0 rfl ?_
  refine aw_iconst hX (0) dL_isSo_1 (by decide) ?_
  refine aw_callVp hX RL rfl (tX9_count _ _ _ eb 0) rfl mf_X9_count mi_X9_count ms_X9_count kl_L_86 (by assumption) rfl rfl (by decide) (Nat.le_of_ble_eq_true rfl) dL_isSo_2 (by first | decide | omega) ?_
  rw [fc_0]
  refine aw_aload_n hX dL_isSo_5 rfl ?_
  refine aw_iconst hX (0) dL_isSo_6 (by decide) ?_
  refine aw_ialdN hX (0) (by assumption) rfl (by decide) (by first | decide | assumption) dL_isSo_7 ?_
  refine aw_icmp_ne hX 124 dL_isSo_8 (by decide) (fun c_8 => ?_) (fun c_8 => ?_)
  · exact absurd (hV.1.trans g0.symm) c_8
  · refine aw_aload_n hX dL_isSo_11 rfl ?_
    refine aw_iconst hX (1) dL_isSo_12 (by decide) ?_
    refine aw_callVp hX RL rfl (tX9_count _ _ _ eb 1) rfl mf_X9_count mi_X9_count ms_X9_count kl_L_86 (by assumption) rfl rfl (by decide) (Nat.le_of_ble_eq_true rfl) dL_isSo_13 (by first | decide | omega) ?_
    rw [fc_1]
    refine aw_aload_n hX dL_isSo_16 rfl ?_
    refine aw_iconst hX (1) dL_isSo_17 (by decide) ?_
    refine aw_ialdN hX (1) (by assumption) rfl (by decide) (by first | decide | assumption) dL_isSo_18 ?_
    refine aw_icmp_ne hX 124 dL_isSo_19 (by decide) (fun c_19 => ?_) (fun c_19 => ?_)
    · exact absurd (hV.2.2.2.1.1.trans g1.symm) c_19
    · refine aw_aload_n hX dL_isSo_22 rfl ?_
      refine aw_iconst hX (2) dL_isSo_23 (by decide) ?_
      refine aw_callVp hX RL rfl (tX9_count _ _ _ eb 2) rfl mf_X9_count mi_X9_count ms_X9_count kl_L_86 (by assumption) rfl rfl (by decide) (Nat.le_of_ble_eq_true rfl) dL_isSo_24 (by first | decide | omega) ?_
      rw [fc_2]
      refine aw_aload_n hX dL_isSo_27 rfl ?_
      refine aw_iconst hX (2) dL_isSo_28 (by decide) ?_
      refine aw_ialdN hX (2) (by assumption) rfl (by decide) (by first | decide | assumption) dL_isSo_29 ?_
      refine aw_icmp_ne hX 124 dL_isSo_30 (by decide) (fun c_30 => ?_) (fun c_30 => ?_)
      · exact absurd (hV.2.2.2.2.1.1.trans g2.symm) c_30
      · refine aw_aload_n hX dL_isSo_33 rfl ?_
        refine aw_iconst hX (3) dL_isSo_34 (by decide) ?_
        refine aw_callVp hX RL rfl (tX9_count _ _ _ eb 3) rfl mf_X9_count mi_X9_count ms_X9_count kl_L_86 (by assumption) rfl rfl (by decide) (Nat.le_of_ble_eq_true rfl) dL_isSo_35 (by first | decide | omega) ?_
        rw [fc_3]
        refine aw_aload_n hX dL_isSo_38 rfl ?_
        refine aw_iconst hX (3) dL_isSo_39 (by decide) ?_
        refine aw_ialdN hX (3) (by assumption) rfl (by decide) (by first | decide | assumption) dL_isSo_40 ?_
        refine aw_icmp_ne hX 124 dL_isSo_41 (by decide) (fun c_41 => ?_) (fun c_41 => ?_)
        · exact absurd (gM.trans g3.symm) c_41
        · refine aw_aload_n hX dL_isSo_44 rfl ?_
          refine aw_iconst hX (4) dL_isSo_45 (by decide) ?_
          refine aw_callVp hX RL rfl (tX9_count _ _ _ eb 4) rfl mf_X9_count mi_X9_count ms_X9_count kl_L_86 (by assumption) rfl rfl (by decide) (Nat.le_of_ble_eq_true rfl) dL_isSo_46 (by first | decide | omega) ?_
          rw [fc_4]
          refine aw_aload hX dL_isSo_49 rfl ?_
          refine aw_bipush hX (60) dL_isSo_51 (by decide) ?_
          refine aw_ialdN hX (60) (by assumption) rfl (by decide) (by first | decide | assumption) dL_isSo_53 ?_
          refine aw_icmp_ne hX 124 dL_isSo_54 (by decide) (fun c_54 => ?_) (fun c_54 => ?_)
          · exact absurd m0.symm c_54
          · refine aw_aload_n hX dL_isSo_57 rfl ?_
            refine aw_iconst hX (5) dL_isSo_58 (by decide) ?_
            refine aw_callVp hX RL rfl (tX9_count _ _ _ eb 5) rfl mf_X9_count mi_X9_count ms_X9_count kl_L_86 (by assumption) rfl rfl (by decide) (Nat.le_of_ble_eq_true rfl) dL_isSo_59 (by first | decide | omega) ?_
            rw [fc_5]
            refine aw_aload_n hX dL_isSo_62 rfl ?_
            refine aw_aload_n hX dL_isSo_63 rfl ?_
            refine aw_callSp hX RL rfl (tL_due _ _ _ e0 e1 H) rfl mf_L_due mt_L_due kl_L_63 rfl (by decide) (Nat.le_of_ble_eq_true rfl) dL_isSo_64 (by first | decide | omega) ?_
            refine aw_icmp_ne hX 124 dL_isSo_67 (by decide) (fun c_67 => ?_) (fun c_67 => ?_)
            · exact absurd rfl c_67
            · refine aw_aload_n hX dL_isSo_70 rfl ?_
              refine aw_bipush hX (9) dL_isSo_71 (by decide) ?_
              refine aw_callVp hX RL rfl (tX9_count _ _ _ eb 9) rfl mf_X9_count mi_X9_count ms_X9_count kl_L_86 (by assumption) rfl rfl (by decide) (Nat.le_of_ble_eq_true rfl) dL_isSo_73 (by first | decide | omega) ?_
              rw [fc_9]
              refine aw_aload_n hX dL_isSo_76 rfl ?_
              refine aw_iconst hX (4) dL_isSo_77 (by decide) ?_
              refine aw_ialdN hX (4) (by assumption) rfl (by decide) (by first | decide | assumption) dL_isSo_78 ?_
              refine aw_icmp_ne hX 124 dL_isSo_79 (by decide) (fun c_79 => ?_) (fun c_79 => ?_)
              · exact absurd g4.symm c_79
              · refine aw_aload_n hX dL_isSo_82 rfl ?_
                refine aw_bipush hX (10) dL_isSo_83 (by decide) ?_
                refine aw_callVp hX RL rfl (tX9_count _ _ _ eb 10) rfl mf_X9_count mi_X9_count ms_X9_count kl_L_86 (by assumption) rfl rfl (by decide) (Nat.le_of_ble_eq_true rfl) dL_isSo_85 (by first | decide | omega) ?_
                rw [fc_10]
                refine aw_aload_n hX dL_isSo_88 rfl ?_
                refine aw_iconst hX (5) dL_isSo_89 (by decide) ?_
                refine aw_ialdN hX (5) (by assumption) rfl (by decide) (by first | decide | assumption) dL_isSo_90 ?_
                refine aw_icmp_ne hX 124 dL_isSo_91 (by decide) (fun c_91 => ?_) (fun c_91 => ?_)
                · exact absurd g5.symm c_91
                · refine aw_aload_n hX dL_isSo_94 rfl ?_
                  refine aw_bipush hX (11) dL_isSo_95 (by decide) ?_
                  refine aw_callVp hX RL rfl (tX9_count _ _ _ eb 11) rfl mf_X9_count mi_X9_count ms_X9_count kl_L_86 (by assumption) rfl rfl (by decide) (Nat.le_of_ble_eq_true rfl) dL_isSo_97 (by first | decide | omega) ?_
                  rw [fc_11]
                  refine aw_aload_n hX dL_isSo_100 rfl ?_
                  refine aw_bipush hX (6) dL_isSo_101 (by decide) ?_
                  refine aw_ialdN hX (6) (by assumption) rfl (by decide) (by first | decide | assumption) dL_isSo_103 ?_
                  refine aw_icmp_ne hX 124 dL_isSo_104 (by decide) (fun c_104 => ?_) (fun c_104 => ?_)
                  · exact absurd g6.symm c_104
                  · refine aw_aload_n hX dL_isSo_107 rfl ?_
                    refine aw_bipush hX (12) dL_isSo_108 (by decide) ?_
                    refine aw_callVp hX RL rfl (tX9_count _ _ _ eb 12) rfl mf_X9_count mi_X9_count ms_X9_count kl_L_86 (by assumption) rfl rfl (by decide) (Nat.le_of_ble_eq_true rfl) dL_isSo_110 (by first | decide | omega) ?_
                    rw [fc_12]
                    refine aw_aload_n hX dL_isSo_113 rfl ?_
                    refine aw_bipush hX (7) dL_isSo_114 (by decide) ?_
                    refine aw_ialdN hX (7) (by assumption) rfl (by decide) (by first | decide | assumption) dL_isSo_116 ?_
                    refine aw_icmp_ne hX 124 dL_isSo_117 (by decide) (fun c_117 => ?_) (fun c_117 => ?_)
                    · exact absurd g7.symm c_117
                    · refine aw_iconst hX (1) dL_isSo_120 (by decide) ?_
                      refine aw_goto hX 125 dL_isSo_121 (by decide) ?_
                      refine aw_istore hX dL_isSo_125 (Nat.le_of_ble_eq_true rfl) ?_
                      refine aw_iconst hX (0) dL_isSo_127 (by decide) ?_
                      refine aw_istore hX dL_isSo_128 (Nat.le_of_ble_eq_true rfl) ?_
                      refine aw_iconst hX (0) dL_isSo_130 (by decide) ?_
                      refine aw_istore hX dL_isSo_131 (Nat.le_of_ble_eq_true rfl) ?_
                      refine aw_iconst hX (0) dL_isSo_133 (by decide) ?_
                      refine aw_istore hX dL_isSo_134 (Nat.le_of_ble_eq_true rfl) ?_
                      refine aw_iconst hX (0) dL_isSo_136 (by decide) ?_
                      refine aw_istore hX dL_isSo_137 (Nat.le_of_ble_eq_true rfl) ?_
                      exact loop1 (W + 1) 0 _ (Nat.zero_le _) (by omega)
end LISO
