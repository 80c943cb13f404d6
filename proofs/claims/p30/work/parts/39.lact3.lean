/-! the law's acts: a message removed, shown, darkened -/
section LACT3
variable {X : CX} {h : HP} {g b lt m : IF} {f : Nat → Int64} {B : FV} {W P o M T n v k c r : Nat} {z : Int32}
theorem LM.rem {S : SV} {m' : IF} (H : LM m S) (hk : k < S.2.2.2.2) (m0 : m' 60 = nI (S.2.2.2.2 - 1)) (m1 : ∀ q, q < 13 * k → m' q = m q) (m2 : ∀ q, 13 * k ≤ q → q < 47 → m' q = m (q + 13)) : LM m' (S.1, S.2.1, shN (k * 12) 84 12 S.2.2.1, shN k 7 1 S.2.2.2.1, S.2.2.2.2 - 1) := by
  obtain ⟨⟨h1, h2⟩, h3⟩ := H
  refine ⟨⟨m0, Nat.le_trans (Nat.sub_le _ _) h2⟩, fun j hj => ?_⟩
  replace hj : j < S.2.2.2.2 - 1 := hj
  show (m' (13 * j) = nI (shN k 7 1 S.2.2.2.1 j) ∧ 1 ≤ shN k 7 1 S.2.2.2.1 j ∧ shN k 7 1 S.2.2.2.1 j ≤ 2) ∧ ∀ i, i < shN k 7 1 S.2.2.2.1 j → m' (13 * j + 1 + i) = nI (shN (k * 12) 84 12 S.2.2.1 (j * 12 + i)) ∧ (shN (k * 12) 84 12 S.2.2.1 (j * 12 + i) < 4 ∨ shN (k * 12) 84 12 S.2.2.1 (j * 12 + i) = 26)
  by_cases e : j < k
  · have a1 : shN k 7 1 S.2.2.2.1 j = S.2.2.2.1 j := by rw [shN, if_neg (by omega)]
    obtain ⟨⟨q1, q2, q3⟩, q4⟩ := h3 j (by omega)
    rw [a1]
    refine ⟨⟨(m1 _ (by omega)).trans q1, q2, q3⟩, fun i hi => ?_⟩
    have a2 : shN (k * 12) 84 12 S.2.2.1 (j * 12 + i) = S.2.2.1 (j * 12 + i) := by rw [shN, if_neg (by omega)]
    obtain ⟨q5, q6⟩ := q4 i hi
    rw [a2]
    exact ⟨(m1 _ (by omega)).trans q5, q6⟩
  · have a1 : shN k 7 1 S.2.2.2.1 j = S.2.2.2.1 (j + 1) := by rw [shN, if_pos (by omega)]
    obtain ⟨⟨q1, q2, q3⟩, q4⟩ := h3 (j + 1) (by omega)
    rw [a1]
    refine ⟨⟨(m2 _ (by omega) (by omega)).trans ((congrArg m (by omega)).trans q1), q2, q3⟩, fun i hi => ?_⟩
    have a2 : shN (k * 12) 84 12 S.2.2.1 (j * 12 + i) = S.2.2.1 ((j + 1) * 12 + i) := by rw [shN, if_pos (by omega), show j * 12 + i + 12 = (j + 1) * 12 + i by omega]
    obtain ⟨q5, q6⟩ := q4 i hi
    rw [a2]
    exact ⟨(m2 _ (by omega) (by omega)).trans ((congrArg m (by omega)).trans q5), q6⟩
theorem WS.rem {S : SV} (H : WS S) (hk : k < S.2.2.2.2) (hK : S.2.2.2.2 ≤ 4) : WS (S.1, S.2.1, shN (k * 12) 84 12 S.2.2.1, shN k 7 1 S.2.2.2.1, S.2.2.2.2 - 1) := by
  obtain ⟨h1, h2, h3⟩ := H
  refine ⟨Nat.le_trans (Nat.sub_le _ _) h1, h2, fun j hj => ?_⟩
  replace hj : j < S.2.2.2.2 - 1 := hj
  show 1 ≤ shN k 7 1 S.2.2.2.1 j ∧ shN k 7 1 S.2.2.2.1 j ≤ 12 ∧ ∀ i, i < shN k 7 1 S.2.2.2.1 j → shN (k * 12) 84 12 S.2.2.1 (j * 12 + i) ≤ 26
  by_cases e : j < k
  · have a1 : shN k 7 1 S.2.2.2.1 j = S.2.2.2.1 j := by rw [shN, if_neg (by omega)]
    obtain ⟨q1, q2, q3⟩ := h3 j (by omega)
    rw [a1]
    refine ⟨q1, q2, fun i hi => ?_⟩
    have a2 : shN (k * 12) 84 12 S.2.2.1 (j * 12 + i) = S.2.2.1 (j * 12 + i) := by rw [shN, if_neg (by omega)]
    rw [a2]
    exact q3 i hi
  · have a1 : shN k 7 1 S.2.2.2.1 j = S.2.2.2.1 (j + 1) := by rw [shN, if_pos (by omega)]
    obtain ⟨q1, q2, q3⟩ := h3 (j + 1) (by omega)
    rw [a1]
    refine ⟨q1, q2, fun i hi => ?_⟩
    have a2 : shN (k * 12) 84 12 S.2.2.1 (j * 12 + i) = S.2.2.1 ((j + 1) * 12 + i) := by rw [shN, if_pos (by omega), show j * 12 + i + 12 = (j + 1) * 12 + i by omega]
    rw [a2]
    exact q3 i hi
theorem acts_remove (hX : Cx X RL cL_acts (some .boolean) 7 180 0 0 n (AP T)) (H : LX g b f lt m h B W P o M T) (hv : v < 1000000) (hk : 0 < (BS B).2.2.2.2 → k < (BS B).2.2.2.2) : AW X n h 0 0 638 [some (.ref 5), some (.ref 189), some (.ref 190), some (.ref 191), some (.ref 192), some (.ref 193), some (.int z), some (.int (nI v)), some (.int (nI (BS B).2.2.2.2)), some (.int (nI k)), some (.int (nI c)), some (.int (nI r)), none, none, none, none, none, none, none, none, none, none, none, none, none, none] [] := by
  obtain ⟨e, eb, H, hl, hm, hs, hT1⟩ := H
  obtain ⟨e0, e1, e2, e3, e4⟩ := id e
  have b0 := eb.1
  have hWS : WS (BS B) := H.1.1.2.2.1
  obtain ⟨⟨m0, m4⟩, -⟩ := id hm
  have hno : fRemoveMessage B (nI (BS B).2.2.2.2) = (-1001, B) := if_neg (fun q => Int32.lt_irrefl q.2.1)
  have loop : ∀ (y j : Nat) (mj : IF) (hh : HP), k < (BS B).2.2.2.2 → 13 * k ≤ j → j ≤ 47 → 47 - j < y → (∀ q, q < 13 * k → mj q = m q) → (∀ q, 13 * k ≤ q → q < j → mj q = m (q + 13)) → (∀ q, j ≤ q → mj q = m q) → HL hh g b f lt mj → HB hh 5 B → AW X n hh 0 0 675 [some (.ref 5), some (.ref 189), some (.ref 190), some (.ref 191), some (.ref 192), some (.ref 193), some (.int z), some (.int (nI v)), some (.int (nI (BS B).2.2.2.2)), some (.int (nI k)), some (.int (nI c)), some (.int (nI r)), none, none, none, none, none, none, none, none, none, some (.int (nI j)), none, none, none, none] [] := by
    intro y
    induction y with
    | zero => intro j mj hh hk h1 h2 h3; omega
    | succ y ih =>
      intro j mj hh hk h1 h2 h3 k1 k2 k3 e eb
      obtain ⟨e0, e1, e2, e3, e4⟩ := id e
      have hkc : (nI k).toNatClampNeg = k := nI_clamp (by omega)
      have hyes : fRemoveMessage B (nI k) = (nI ((BS B).2.2.2.2 - 1), setS B ((BS B).1, (BS B).2.1, shN (k * 12) 84 12 (BS B).2.2.1, shN k 7 1 (BS B).2.2.2.1, (BS B).2.2.2.2 - 1)) := by rw [fRemoveMessage, hkc, if_pos ⟨Int32.not_lt.mp (nI_pos (by omega)), (nI_ltI (by omega) (by omega)).mpr hk, (nI_ltI (a := k) (b := 8) (by omega) (by decide)).mpr (by omega)⟩]
      refine aw_iload hX dL_acts_675 rfl ?_
      refine aw_bipush hX (13) dL_acts_677 (by decide) ?_
      refine aw_iadd hX dL_acts_679 ?_
      rw [show nI j + 13 = nI (j + 13) from nI_add j 13]
      refine aw_bipush hX (60) dL_acts_680 (by decide) ?_
      refine aw_icmp_ge hX 704 dL_acts_682 (by decide) (fun c_682 => ?_) (fun c_682 => ?_)
      · have n_682 : 60 ≤ j + 13 := (nI_leI (a := 60) (b := j + 13) (by omega) (by omega)).mp c_682
        have hj47 : j = 47 := by omega
        subst hj47
        refine aw_aload hX dL_acts_704 rfl ?_
        refine aw_bipush hX (60) dL_acts_706 (by decide) ?_
        refine aw_dup2 hX dL_acts_708 rfl rfl ?_
        refine aw_ialdN hX (60) (by assumption) rfl (by decide) (by first | decide | assumption) dL_acts_709 ?_
        rw [k3 60 (by decide), m0]
        refine aw_iconst hX (1) dL_acts_710 (by decide) ?_
        refine aw_isub hX dL_acts_711 ?_
        rw [show nI (BS B).2.2.2.2 - 1 = nI ((BS B).2.2.2.2 - 1) from pk_sub (b := 1) (by omega)]
        refine aw_iastN hX (60) (by assumption) rfl (by decide) (by first | decide | assumption) dL_acts_712 ?_
        have e := e.um (upd mj 60 (nI ((BS B).2.2.2.2 - 1)))
        have eb := eb.out (a := 193) (cI 61 (upd mj 60 (nI ((BS B).2.2.2.2 - 1)))) (by omega)
        generalize hset hh 193 (cI 61 (upd mj 60 (nI ((BS B).2.2.2.2 - 1)))) = hk' at e eb ⊢
        have b0 := eb.1
        refine aw_aload_n hX dL_acts_713 rfl ?_
        refine aw_iload hX dL_acts_714 rfl ?_
        refine aw_callV0 hX RL rfl (tX9_removeMessage _ _ _ eb hWS _) rfl mf_X9_removeMessage mi_X9_removeMessage ms_X9_removeMessage kl_L_53 (by assumption) rfl rfl (by decide) (Nat.le_of_ble_eq_true rfl) dL_acts_716 (by decide) (fun v_716 h_716 p_716 => ?_)
        obtain ⟨rfl, eb, sm⟩ := pb_at p_716 hyes
        refine aw_iload hX dL_acts_719 rfl ?_
        refine aw_iconst hX (1) dL_acts_721 (by decide) ?_
        refine aw_isub hX dL_acts_722 ?_
        rw [show nI (BS B).2.2.2.2 - 1 = nI ((BS B).2.2.2.2 - 1) from pk_sub (b := 1) (by omega)]
        refine aw_icmp_ne hX 730 dL_acts_723 (by decide) (fun c_723 => ?_) (fun c_723 => ?_)
        · exact absurd rfl c_723
        · refine aw_iconst hX (1) dL_acts_726 (by decide) ?_
          refine aw_goto hX 731 dL_acts_727 (by decide) ?_
          exact aw_zret hX rfl (by first | exact Or.inl rfl | exact Or.inr rfl | assumption) rfl rfl rfl dL_acts_731 (by exact LX.fin (T' := T) ⟨e.sm sm (by omega), eb, H.script (hWS.rem hk m4), hl, hm.rem hk pk_us (fun q hq => (pk_un (by omega)).trans (k1 q hq)) (fun q h4 h5 => (pk_un (by omega)).trans (k2 q h4 h5)), hs, hT1⟩ (by omega))
      · have n_682 : ¬ 60 ≤ j + 13 := fun q_ => c_682 ((nI_leI (a := 60) (b := j + 13) (by omega) (by omega)).mpr q_)
        refine aw_aload hX dL_acts_685 rfl ?_
        refine aw_iload hX dL_acts_687 rfl ?_
        refine aw_aload hX dL_acts_689 rfl ?_
        refine aw_iload hX dL_acts_691 rfl ?_
        refine aw_bipush hX (13) dL_acts_693 (by decide) ?_
        refine aw_iadd hX dL_acts_695 ?_
        refine aw_ialdN hX (j + 13) (by assumption) (nI_add j 13) (by omega) (by first | decide | assumption) dL_acts_696 ?_
        rw [k3 (j + 13) (by omega)]
        refine aw_iastN hX (j) (by assumption) rfl (by omega) (by first | decide | assumption) dL_acts_697 ?_
        refine aw_iinc hX (nI (j + 1)) dL_acts_698 rfl (nI_1 j) ?_
        refine aw_goto hX 675 dL_acts_701 (by decide) ?_
        exact ih (j + 1) (upd mj j (m (j + 13))) _ hk (by omega) (by omega) (by omega) (fun q hq => (pk_un (by omega)).trans (k1 q hq)) (fun q h4 h5 => by by_cases w : q = j; (rw [w, pk_us]); exact (pk_un w).trans (k2 q h4 (by omega))) (fun q hq => (pk_un (by omega)).trans (k3 q (by omega))) (e.um _) (eb.out _ (by omega))
  refine aw_iload hX dL_acts_638 rfl ?_
  refine aw_if_eq hX 650 dL_acts_640 (by decide) (fun c_640 => ?_) (fun c_640 => ?_)
  · have n_640 : (BS B).2.2.2.2 = 0 := (nI_eq (a := (BS B).2.2.2.2) (b := 0) (by omega) (by omega)).mp c_640
    refine aw_aload_n hX dL_acts_650 rfl ?_
    refine aw_iload hX dL_acts_651 rfl ?_
    refine aw_callV0 hX RL rfl (tX9_removeMessage _ _ _ eb hWS _) rfl mf_X9_removeMessage mi_X9_removeMessage ms_X9_removeMessage kl_L_53 (by assumption) rfl rfl (by decide) (Nat.le_of_ble_eq_true rfl) dL_acts_653 (by decide) (fun v_653 h_653 p_653 => ?_)
    obtain ⟨rfl, eb, sm⟩ := pb_at p_653 hno
    refine aw_sipush hX (-1001) dL_acts_656 (by decide) ?_
    refine aw_icmp_ne hX 666 dL_acts_659 (by decide) (fun c_659 => ?_) (fun c_659 => ?_)
    · exact absurd rfl c_659
    · refine aw_iconst hX (1) dL_acts_662 (by decide) ?_
      refine aw_goto hX 667 dL_acts_663 (by decide) ?_
      exact aw_zret hX rfl (by first | exact Or.inl rfl | exact Or.inr rfl | assumption) rfl rfl rfl dL_acts_667 (by exact LX.fin (T' := T) ⟨e.sm sm (by omega), eb, H, hl, hm, hs, hT1⟩ (by omega))
  · have n_640 : ¬ (BS B).2.2.2.2 = 0 := fun q_ => c_640 ((nI_eq (a := (BS B).2.2.2.2) (b := 0) (by omega) (by omega)).mpr q_)
    refine aw_iload hX dL_acts_643 rfl ?_
    refine aw_iconst hX (3) dL_acts_645 (by decide) ?_
    refine aw_irem hX dL_acts_646 (by decide) ?_
    refine AW.top (y := nI (v % 3)) (pk_rem (a := v) (d := 3) (by omega) (by decide) (by decide)) ?_
    refine aw_if_le hX 668 dL_acts_647 (by decide) (fun c_647 => ?_) (fun c_647 => ?_)
    · have n_647 : v % 3 ≤ 0 := (nI_leI (a := v % 3) (b := 0) (by omega) (by omega)).mp c_647
      have hk := hk (by omega)
      refine aw_bipush hX (13) dL_acts_668 (by decide) ?_
      refine aw_iload hX dL_acts_670 rfl ?_
      refine aw_imul hX dL_acts_672 ?_
      rw [ix13]
      refine aw_istore hX dL_acts_673 (Nat.le_of_ble_eq_true rfl) ?_
      exact loop 48 (13 * k) m h hk (Nat.le_refl _) (by omega) (by omega) (fun q _ => rfl) (fun q h4 h5 => absurd h5 (by omega)) (fun q _ => rfl) e eb
    · have n_647 : ¬ v % 3 ≤ 0 := fun q_ => c_647 ((nI_leI (a := v % 3) (b := 0) (by omega) (by omega)).mpr q_)
      refine aw_aload_n hX dL_acts_650 rfl ?_
      refine aw_iload hX dL_acts_651 rfl ?_
      refine aw_callV0 hX RL rfl (tX9_removeMessage _ _ _ eb hWS _) rfl mf_X9_removeMessage mi_X9_removeMessage ms_X9_removeMessage kl_L_53 (by assumption) rfl rfl (by decide) (Nat.le_of_ble_eq_true rfl) dL_acts_653 (by decide) (fun v_653 h_653 p_653 => ?_)
      obtain ⟨rfl, eb, sm⟩ := pb_at p_653 hno
      refine aw_sipush hX (-1001) dL_acts_656 (by decide) ?_
      refine aw_icmp_ne hX 666 dL_acts_659 (by decide) (fun c_659 => ?_) (fun c_659 => ?_)
      · exact absurd rfl c_659
      · refine aw_iconst hX (1) dL_acts_662 (by decide) ?_
        refine aw_goto hX 667 dL_acts_663 (by decide) ?_
        exact aw_zret hX rfl (by first | exact Or.inl rfl | exact Or.inr rfl | assumption) rfl rfl rfl dL_acts_667 (by exact LX.fin (T' := T) ⟨e.sm sm (by omega), eb, H, hl, hm, hs, hT1⟩ (by omega))
theorem LD.aim {v : PV} (H : LD g b f v W P o M) {p b' : IF} (h7 : ∀ c, B7 (p c)) (hz : ∀ c, W ≤ c → p c = 0) (k1 : ∀ c, c < W → b' (16 + c) = p c) (k2 : ∀ q, q < 16 ∨ 32 ≤ q → b' q = b q) : LD g b' f (aimD v p, v.2) W P o M := by
  obtain ⟨⟨hV, hW, hZ⟩, h2, h3, h4⟩ := H
  refine ⟨⟨aim_VW hV h7, hW, fun c c1 c2 => ?_⟩, h2, fun c hc => ?_, h4⟩
  · obtain ⟨z1, z2, z3, z4⟩ := hZ c c1 c2
    exact ⟨z1, hz c c1, z3, z4⟩
  · obtain ⟨q1, q2, q3, q4⟩ := h3 c hc
    exact ⟨(k2 _ (by omega)).trans q1, k1 c hc, (k2 _ (by omega)).trans q3, (k2 _ (by omega)).trans q4⟩
theorem acts_show (hX : Cx X RL cL_acts (some .boolean) 7 180 0 0 n (AP T)) (H : LX g b f lt m h B W P o M T) (hv : v < 1000000) (hk : 0 < (BS B).2.2.2.2 → k < (BS B).2.2.2.2) : AW X n h 0 0 732 [some (.ref 5), some (.ref 189), some (.ref 190), some (.ref 191), some (.ref 192), some (.ref 193), some (.int z), some (.int (nI v)), some (.int (nI (BS B).2.2.2.2)), some (.int (nI k)), some (.int (nI c)), some (.int (nI r)), none, none, none, none, none, none, none, none, none, none, none, none, none, none] [] := by
  obtain ⟨e, eb, H, hl, hm, hs, hT1⟩ := H
  obtain ⟨e0, e1, e2, e3, e4⟩ := id e
  have b0 := eb.1
  have hV := H.1.1
  have hW14 := H.1.2.1
  have hWS : WS (BS B) := hV.2.2.1
  have g0 : g 0 = nI W := H.2.1.1.1
  obtain ⟨⟨m0, m4⟩, -⟩ := id hm
  obtain ⟨s, hsd⟩ : ∃ s : Int, (if v / 8 % 2 = 1 then bestF B.1 W k else 0) = s := ⟨_, rfl⟩
  have hs12 : -2 ≤ s ∧ s ≤ 2 := by
    rw [← hsd]
    split
    · exact bestF_in B.1 W k
    · decide
  have hp : ∀ q, pF W (BS B) k s q = shF B.1 W k (v / 8 % 2) q := fun q => by
    rw [← hsd]
    rfl
  have loop : ∀ (y j : Nat) (bj : IF) (hh : HP), k < (BS B).2.2.2.2 → j ≤ W → W - j < y → (∀ q, q < j → bj (16 + q) = shF B.1 W k (v / 8 % 2) q) → (∀ q, q < 16 ∨ 16 + j ≤ q → bj q = b q) → HL hh g bj f lt m → HB hh 5 B → AW X n hh 0 0 785 [some (.ref 5), some (.ref 189), some (.ref 190), some (.ref 191), some (.ref 192), some (.ref 193), some (.int z), some (.int (nI v)), some (.int (nI (BS B).2.2.2.2)), some (.int (nI k)), some (.int (nI c)), some (.int (nI r)), none, none, none, none, none, none, none, none, none, some (.int (iI s)), some (.int (nI j)), none, none, none] [] := by
    intro y
    induction y with
    | zero => intro j bj hh hk h1 h2; omega
    | succ y ih =>
      intro j bj hh hk h1 h2 k1 k2 e eb
      obtain ⟨e0, e1, e2, e3, e4⟩ := id e
      have b0 := eb.1
      have hkc : (nI k).toNatClampNeg = k := nI_clamp (by omega)
      have hwc : (nI (v / 8 % 2)).toNatClampNeg = v / 8 % 2 := nI_clamp (by omega)
      have hyes : fShow B W (nI k) (nI (v / 8 % 2)) = (dueN (aimD B.1 (shF B.1 W k (v / 8 % 2)), B.1.2), setD B (aimD B.1 (shF B.1 W k (v / 8 % 2)))) := by rw [fShow, hkc, hwc, if_pos ⟨⟨Int32.not_lt.mp (nI_pos (by omega)), (nI_ltI (by omega) (by omega)).mpr hk, (nI_ltI (a := k) (b := 8) (by omega) (by decide)).mpr (by omega)⟩, Int32.not_lt.mp (nI_pos (by omega)), (nI_leI (a := v / 8 % 2) (b := 1) (by omega) (by decide)).mpr (by omega)⟩]
      refine aw_iload hX dL_acts_785 rfl ?_
      refine aw_aload_n hX dL_acts_787 rfl ?_
      refine aw_iconst hX (0) dL_acts_788 (by decide) ?_
      refine aw_ialdN hX (0) (by assumption) rfl (by decide) (by first | decide | assumption) dL_acts_789 ?_
      rw [g0]
      refine aw_icmp_ge hX 820 dL_acts_790 (by decide) (fun c_790 => ?_) (fun c_790 => ?_)
      · have n_790 : W ≤ j := (nI_leI (a := W) (b := j) (by omega) (by omega)).mp c_790
        have hjW : j = W := by omega
        subst hjW
        have HD := H.aim (p := shF B.1 j k (v / 8 % 2)) (b' := bj) (fun q => pF_B7 hs _ _ _ _) (fun q hq => pF_W hq) k1 (fun q hq => k2 q (by omega))
        refine aw_aload_n hX dL_acts_820 rfl ?_
        refine aw_iload hX dL_acts_821 rfl ?_
        refine aw_iload hX dL_acts_823 rfl ?_
        refine aw_bipush hX (8) dL_acts_825 (by decide) ?_
        refine aw_idiv hX dL_acts_827 (by decide) ?_
        refine AW.top (y := nI (v / 8)) (pk_div (a := v) (d := 8) (by omega) (by decide) (by decide)) ?_
        refine aw_iconst hX (2) dL_acts_828 (by decide) ?_
        refine aw_irem hX dL_acts_829 (by decide) ?_
        refine AW.top (y := nI (v / 8 % 2)) (pk_rem (a := v / 8) (d := 2) (by omega) (by decide) (by decide)) ?_
        refine aw_callV0 hX RL rfl (tX9_show _ _ _ eb hV _ _) rfl mf_X9_show mi_X9_show ms_X9_show kl_L_56 (by assumption) rfl rfl (by decide) (Nat.le_of_ble_eq_true rfl) dL_acts_830 (by decide) (fun v_830 h_830 p_830 => ?_)
        obtain ⟨rfl, eb, sm⟩ := pb_at p_830 hyes
        have e := e.sm sm (by omega)
        obtain ⟨e0, e1, e2, e3, e4⟩ := id e
        refine aw_aload_n hX dL_acts_833 rfl ?_
        refine aw_aload_n hX dL_acts_834 rfl ?_
        refine aw_callSp hX RL rfl (tL_due _ _ _ e0 e1 HD) rfl mf_L_due mt_L_due kl_L_63 rfl (by decide) (Nat.le_of_ble_eq_true rfl) dL_acts_835 (by decide) ?_
        refine aw_icmp_ne hX 845 dL_acts_838 (by decide) (fun c_838 => ?_) (fun c_838 => ?_)
        · exact absurd rfl c_838
        · refine aw_iconst hX (1) dL_acts_841 (by decide) ?_
          refine aw_goto hX 846 dL_acts_842 (by decide) ?_
          exact aw_zret hX rfl (by first | exact Or.inl rfl | exact Or.inr rfl | assumption) rfl rfl rfl dL_acts_846 (by exact LX.fin (T' := T) ⟨e, eb, HD, hl, hm, hs, hT1⟩ (by omega))
      · have n_790 : ¬ W ≤ j := fun q_ => c_790 ((nI_leI (a := W) (b := j) (by omega) (by omega)).mpr q_)
        refine aw_aload_n hX dL_acts_793 rfl ?_
        refine aw_bipush hX (16) dL_acts_794 (by decide) ?_
        refine aw_iload hX dL_acts_796 rfl ?_
        refine aw_iadd hX dL_acts_798 ?_
        refine aw_aload_n hX dL_acts_799 rfl ?_
        refine aw_aload hX dL_acts_800 rfl ?_
        refine aw_aload hX dL_acts_802 rfl ?_
        refine aw_iload hX dL_acts_804 rfl ?_
        refine aw_iload hX dL_acts_806 rfl ?_
        refine aw_iload hX dL_acts_808 rfl ?_
        refine aw_callSp hX RL rfl (tL_picture _ _ _ e0 e3 e4 g0 hW14 hl hm hWS hk (by omega) hs12.1 hs12.2) rfl mf_L_picture mt_L_picture kl_L_25 rfl (by decide) (Nat.le_of_ble_eq_true rfl) dL_acts_810 (by decide) ?_
        rw [hp]
        refine aw_iastN hX (16 + j) (by assumption) (ix16 j) (by omega) (by first | decide | assumption) dL_acts_813 ?_
        refine aw_iinc hX (nI (j + 1)) dL_acts_814 rfl (nI_1 j) ?_
        refine aw_goto hX 785 dL_acts_817 (by decide) ?_
        exact ih (j + 1) (upd bj (16 + j) (shF B.1 W k (v / 8 % 2) j)) _ hk (by omega) (by omega) (fun q hq => by by_cases w : q = j; (rw [w, pk_us]); exact (pk_un (by omega)).trans (k1 q (by omega))) (fun q hq => (pk_un (by omega)).trans (k2 q (by omega))) (e.ub _) (eb.out _ (by omega))
  refine aw_iload hX dL_acts_732 rfl ?_
  refine aw_if_ne hX 755 dL_acts_734 (by decide) (fun c_734 => ?_) (fun c_734 => ?_)
  · have n_734 : ¬ (BS B).2.2.2.2 = 0 := fun q_ => c_734 ((nI_eq (a := (BS B).2.2.2.2) (b := 0) (by omega) (by omega)).mpr q_)
    have hk := hk (by omega)
    refine aw_iload hX dL_acts_755 rfl ?_
    refine aw_bipush hX (8) dL_acts_757 (by decide) ?_
    refine aw_idiv hX dL_acts_759 (by decide) ?_
    refine AW.top (y := nI (v / 8)) (pk_div (a := v) (d := 8) (by omega) (by decide) (by decide)) ?_
    refine aw_iconst hX (2) dL_acts_760 (by decide) ?_
    refine aw_irem hX dL_acts_761 (by decide) ?_
    refine AW.top (y := nI (v / 8 % 2)) (pk_rem (a := v / 8) (d := 2) (by omega) (by decide) (by decide)) ?_
    refine aw_if_ne hX 769 dL_acts_762 (by decide) (fun c_762 => ?_) (fun c_762 => ?_)
    · have n_762 : ¬ v / 8 % 2 = 0 := fun q_ => c_762 ((nI_eq (a := v / 8 % 2) (b := 0) (by omega) (by omega)).mpr q_)
      refine aw_aload_n hX dL_acts_769 rfl ?_
      refine aw_aload_n hX dL_acts_770 rfl ?_
      refine aw_aload hX dL_acts_771 rfl ?_
      refine aw_aload hX dL_acts_773 rfl ?_
      refine aw_iload hX dL_acts_775 rfl ?_
      refine aw_callSp hX RL rfl (tL_best _ _ _ e0 e1 e3 e4 H hl hm hs hk) rfl mf_L_best mt_L_best kl_L_59 rfl (by decide) (Nat.le_of_ble_eq_true rfl) dL_acts_777 (by decide) ?_
      refine AW.top (y := iI s) (by rw [← hsd]; first | exact (congrArg iI (if_pos (show v / 8 % 2 = 1 by omega))).symm | exact (show (0 : Int32) = iI 0 by decide).trans (congrArg iI (if_neg (show ¬ v / 8 % 2 = 1 by omega))).symm) ?_
      refine aw_istore hX dL_acts_780 (Nat.le_of_ble_eq_true rfl) ?_
      refine aw_iconst hX (0) dL_acts_782 (by decide) ?_
      refine aw_istore hX dL_acts_783 (Nat.le_of_ble_eq_true rfl) ?_
      exact loop (W + 1) 0 b h hk (Nat.zero_le _) (by omega) (fun q hq => absurd hq (Nat.not_lt_zero q)) (fun q _ => rfl) e eb
    · have n_762 : v / 8 % 2 = 0 := (nI_eq (a := v / 8 % 2) (b := 0) (by omega) (by omega)).mp c_762
      refine aw_iconst hX (0) dL_acts_765 (by decide) ?_
      refine aw_goto hX 780 dL_acts_766 (by decide) ?_
      refine AW.top (y := iI s) (by rw [← hsd]; first | exact (congrArg iI (if_pos (show v / 8 % 2 = 1 by omega))).symm | exact (show (0 : Int32) = iI 0 by decide).trans (congrArg iI (if_neg (show ¬ v / 8 % 2 = 1 by omega))).symm) ?_
      refine aw_istore hX dL_acts_780 (Nat.le_of_ble_eq_true rfl) ?_
      refine aw_iconst hX (0) dL_acts_782 (by decide) ?_
      refine aw_istore hX dL_acts_783 (Nat.le_of_ble_eq_true rfl) ?_
      exact loop (W + 1) 0 b h hk (Nat.zero_le _) (by omega) (fun q hq => absurd hq (Nat.not_lt_zero q)) (fun q _ => rfl) e eb
  · have n_734 : (BS B).2.2.2.2 = 0 := (nI_eq (a := (BS B).2.2.2.2) (b := 0) (by omega) (by omega)).mp c_734
    refine aw_aload_n hX dL_acts_737 rfl ?_
    refine aw_iconst hX (0) dL_acts_738 (by decide) ?_
    refine aw_iconst hX (0) dL_acts_739 (by decide) ?_
    refine aw_callV0 hX RL rfl (tX9_show _ _ _ eb hV _ _) rfl mf_X9_show mi_X9_show ms_X9_show kl_L_56 (by assumption) rfl rfl (by decide) (Nat.le_of_ble_eq_true rfl) dL_acts_740 (by decide) (fun v_740 h_740 p_740 => ?_)
    obtain ⟨rfl, eb, sm⟩ := pb_at p_740 (show fShow B W 0 0 = (-1001, B) from if_neg (fun q => absurd q.1.2.1 (by rw [n_734]; decide)))
    refine aw_sipush hX (-1001) dL_acts_743 (by decide) ?_
    refine aw_icmp_ne hX 753 dL_acts_746 (by decide) (fun c_746 => ?_) (fun c_746 => ?_)
    · exact absurd rfl c_746
    · refine aw_iconst hX (1) dL_acts_749 (by decide) ?_
      refine aw_goto hX 754 dL_acts_750 (by decide) ?_
      exact aw_zret hX rfl (by first | exact Or.inl rfl | exact Or.inr rfl | assumption) rfl rfl rfl dL_acts_754 (by exact LX.fin (T' := T) ⟨e.sm sm (by omega), eb, H, hl, hm, hs, hT1⟩ (by omega))
theorem acts_dark (hX : Cx X RL cL_acts (some .boolean) 7 180 0 0 n (AP T)) (H : LX g b f lt m h B W P o M T) (hv : v < 1000000) : AW X n h 0 0 847 [some (.ref 5), some (.ref 189), some (.ref 190), some (.ref 191), some (.ref 192), some (.ref 193), some (.int z), some (.int (nI v)), some (.int (nI (BS B).2.2.2.2)), some (.int (nI k)), some (.int (nI c)), some (.int (nI r)), none, none, none, none, none, none, none, none, none, none, none, none, none, none] [] := by
  obtain ⟨e, eb, H, hl, hm, hs, hT1⟩ := H
  obtain ⟨e0, e1, e2, e3, e4⟩ := id e
  have loop : ∀ (y j : Nat) (bj : IF) (hh : HP), 16 ≤ j → j ≤ 32 → 32 - j < y → (∀ q, 16 ≤ q → q < j → bj q = if v % 2 = 0 then 0 else b q) → (∀ q, q < 16 ∨ j ≤ q → bj q = b q) → HL hh g bj f lt m → HB hh 5 B → AW X n hh 0 0 851 [some (.ref 5), some (.ref 189), some (.ref 190), some (.ref 191), some (.ref 192), some (.ref 193), some (.int z), some (.int (nI v)), some (.int (nI (BS B).2.2.2.2)), some (.int (nI k)), some (.int (nI c)), some (.int (nI r)), none, none, none, none, none, none, none, none, none, none, some (.int (nI j)), none, none, none] [] := by
    intro y
    induction y with
    | zero => intro j bj hh h1 h2 h3; omega
    | succ y ih =>
      intro j bj hh h1 h2 h3 k1 k2 e eb
      obtain ⟨e0, e1, e2, e3, e4⟩ := id e
      have b0 := eb.1
      refine aw_iload hX dL_acts_851 rfl ?_
      refine aw_bipush hX (32) dL_acts_853 (by decide) ?_
      refine aw_icmp_ge hX 883 dL_acts_855 (by decide) (fun c_855 => ?_) (fun c_855 => ?_)
      · have n_855 : 32 ≤ j := (nI_leI (a := 32) (b := j) (by omega) (by omega)).mp c_855
        have hj32 : j = 32 := by omega
        subst hj32
        refine aw_iload hX dL_acts_883 rfl ?_
        refine aw_iconst hX (2) dL_acts_885 (by decide) ?_
        refine aw_irem hX dL_acts_886 (by decide) ?_
        refine AW.top (y := nI (v % 2)) (pk_rem (a := v) (d := 2) (by omega) (by decide) (by decide)) ?_
        refine aw_iconst hX (1) dL_acts_887 (by decide) ?_
        refine aw_icmp_eq hX 903 dL_acts_888 (by decide) (fun c_888 => ?_) (fun c_888 => ?_)
        · have n_888 : v % 2 = 1 := (nI_eq (a := v % 2) (b := 1) (by omega) (by omega)).mp c_888
          have hB : LB bj B.1 W := LB.ext H.2.2.1 (fun q => by by_cases w : q < 16 ∨ 32 ≤ q; exact k2 q w; exact (k1 q (by omega) (by omega)).trans (if_neg (by omega)))
          refine aw_iconst hX (1) dL_acts_903 (by decide) ?_
          refine aw_goto hX 908 dL_acts_904 (by decide) ?_
          exact aw_zret hX rfl (Or.inr rfl) rfl rfl rfl dL_acts_908 (LX.fin (T' := T) ⟨e, eb, ⟨H.1, H.2.1, hB, H.2.2.2⟩, hl, hm, hs, hT1⟩ (by omega))
        · have n_888 : ¬ v % 2 = 1 := fun q_ => c_888 ((nI_eq (a := v % 2) (b := 1) (by omega) (by omega)).mpr q_)
          refine aw_aload_n hX dL_acts_891 rfl ?_
          refine aw_callV0 hX RL rfl (tX9_darken _ _ _ eb) rfl mf_X9_darken mi_X9_darken ms_X9_darken kl_L_67 (by assumption) rfl rfl (by decide) (Nat.le_of_ble_eq_true rfl) dL_acts_892 (by decide) (fun v_892 h_892 p_892 => ?_)
          obtain ⟨rfl, eb, sm⟩ := p_892
          have e := e.sm sm (by omega)
          obtain ⟨e0, e1, e2, e3, e4⟩ := id e
          have HD := H.aim (p := fun _ => 0) (b' := bj) (fun _ => B7_0) (fun _ _ => rfl) (fun q hq => (k1 _ (by omega) (by have := H.1.2.1; omega)).trans (if_pos (by omega))) k2
          refine aw_aload_n hX dL_acts_895 rfl ?_
          refine aw_aload_n hX dL_acts_896 rfl ?_
          refine aw_callSp hX RL rfl (tL_due _ _ _ e0 e1 HD) rfl mf_L_due mt_L_due kl_L_63 rfl (by decide) (Nat.le_of_ble_eq_true rfl) dL_acts_897 (by decide) ?_
          refine aw_icmp_ne hX 907 dL_acts_900 (by decide) (fun c_900 => ?_) (fun c_900 => ?_)
          · exact absurd rfl c_900
          · refine aw_iconst hX (1) dL_acts_903 (by decide) ?_
            refine aw_goto hX 908 dL_acts_904 (by decide) ?_
            exact aw_zret hX rfl (by first | exact Or.inl rfl | exact Or.inr rfl | assumption) rfl rfl rfl dL_acts_908 (by exact LX.fin (T' := T) ⟨e, eb, HD, hl, hm, hs, hT1⟩ (by omega))
      · have n_855 : ¬ 32 ≤ j := fun q_ => c_855 ((nI_leI (a := 32) (b := j) (by omega) (by omega)).mpr q_)
        refine aw_aload_n hX dL_acts_858 rfl ?_
        refine aw_iload hX dL_acts_859 rfl ?_
        refine aw_iload hX dL_acts_861 rfl ?_
        refine aw_iconst hX (2) dL_acts_863 (by decide) ?_
        refine aw_irem hX dL_acts_864 (by decide) ?_
        refine AW.top (y := nI (v % 2)) (pk_rem (a := v) (d := 2) (by omega) (by decide) (by decide)) ?_
        refine aw_if_ne hX 872 dL_acts_865 (by decide) (fun c_865 => ?_) (fun c_865 => ?_)
        · have n_865 : ¬ v % 2 = 0 := fun q_ => c_865 ((nI_eq (a := v % 2) (b := 0) (by omega) (by omega)).mpr q_)
          refine aw_aload_n hX dL_acts_872 rfl ?_
          refine aw_iload hX dL_acts_873 rfl ?_
          refine aw_ialdN hX (j) (by assumption) rfl (by omega) (by first | decide | assumption) dL_acts_875 ?_
          rw [k2 j (Or.inr (Nat.le_refl _))]
          refine AW.top (y := if v % 2 = 0 then 0 else b j) (by first | exact (if_pos n_865).symm | exact (if_neg n_865).symm) ?_
          refine aw_iastN hX (j) (by assumption) rfl (by omega) (by first | decide | assumption) dL_acts_876 ?_
          refine aw_iinc hX (nI (j + 1)) dL_acts_877 rfl (nI_1 j) ?_
          refine aw_goto hX 851 dL_acts_880 (by decide) ?_
          exact ih (j + 1) (upd bj j (if v % 2 = 0 then 0 else b j)) _ (by omega) (by omega) (by omega) (fun q h4 h5 => by by_cases w : q = j; (rw [w, pk_us]); exact (pk_un w).trans (k1 q h4 (by omega))) (fun q hq => (pk_un (by omega)).trans (k2 q (by omega))) (e.ub _) (eb.out _ (by omega))
        · have n_865 : v % 2 = 0 := (nI_eq (a := v % 2) (b := 0) (by omega) (by omega)).mp c_865
          refine aw_iconst hX (0) dL_acts_868 (by decide) ?_
          refine aw_goto hX 876 dL_acts_869 (by decide) ?_
          refine AW.top (y := if v % 2 = 0 then 0 else b j) (by first | exact (if_pos n_865).symm | exact (if_neg n_865).symm) ?_
          refine aw_iastN hX (j) (by assumption) rfl (by omega) (by first | decide | assumption) dL_acts_876 ?_
          refine aw_iinc hX (nI (j + 1)) dL_acts_877 rfl (nI_1 j) ?_
          refine aw_goto hX 851 dL_acts_880 (by decide) ?_
          exact ih (j + 1) (upd bj j (if v % 2 = 0 then 0 else b j)) _ (by omega) (by omega) (by omega) (fun q h4 h5 => by by_cases w : q = j; (rw [w, pk_us]); exact (pk_un w).trans (k1 q h4 (by omega))) (fun q hq => (pk_un (by omega)).trans (k2 q (by omega))) (e.ub _) (eb.out _ (by omega))
  refine aw_bipush hX (16) dL_acts_847 (by decide) ?_
  refine aw_istore hX dL_acts_849 (Nat.le_of_ble_eq_true rfl) ?_
  exact loop 17 16 b h (by decide) (by decide) (by decide) (fun q h1 h2 => absurd h2 (by omega)) (fun q _ => rfl) e eb
end LACT3
