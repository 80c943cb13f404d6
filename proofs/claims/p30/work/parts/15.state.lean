/-! Script's loops; State; History -/
def shN (a t s : Nat) (f : Nat → Nat) : Nat → Nat := fun q => if a ≤ q ∧ q < t then f (q + s) else f q
theorem shN_0 (a s : Nat) (f : Nat → Nat) : shN a a s f = f := by
  funext q
  rw [shN, if_neg (by omega)]
theorem shN_at {a t s q : Nat} (f : Nat → Nat) (h : t ≤ q) : shN a t s f q = f q := by rw [shN, if_neg (by omega)]
theorem shN_up {a t s : Nat} (f : Nat → Nat) (h : a ≤ t) : updN (shN a t s f) t (f (t + s)) = shN a (t + 1) s f := by
  funext q
  unfold updN shN
  by_cases e : q = t
  · subst e
    rw [if_pos rfl, if_pos ⟨h, Nat.lt_succ_self _⟩]
  · rw [if_neg e]
    by_cases e2 : a ≤ q ∧ q < t
    · rw [if_pos e2, if_pos ⟨e2.1, by omega⟩]
    · rw [if_neg e2, if_neg (by omega)]
def sumN (f : Nat → Nat) : Nat → Nat
  | 0 => 0
  | n + 1 => sumN f n + f n
/-- the columns of a strip -/
def tF (wd : Nat → Nat) (ch : Nat → Nat) (L : Nat) : Nat := L - 1 + sumN (fun k => wF wd (ch k)) L
/-- the bits of a strip's column: what is left of the message, from its character i on -/
def sbF (co : IF) (wd : Nat → Nat) (ch : Nat → Nat) : Nat → Nat → Int → Int32
  | 0, _, _ => 0
  | r + 1, i, z => if z < 0 then 0 else if z < (wF wd (ch i) : Int) then cF co (ch i) z.toNat else sbF co wd ch r (i + 1) (z - ((wF wd (ch i) : Int) + 1))
theorem iI_nn {z : Int} (h : 0 ≤ z) : iI z = nI z.toNat := by
  rw [iI_n, Int.toNat_of_nonneg h]
section SCRIPT2
variable {h : HP} {d : Nat} {co : IF} {wd cr ln : Nat → Nat} {K : Nat}
theorem tX7_dropMessage (l : Launch) (E : EV) (n : Nat) (H : HScript h d co wd cr ln (K + 1)) (hK : K < 8) {m : Nat} (hm : m ≤ K) : MX7_dropMessage l E n h [.ref d, .int (nI m)] (fun v h' => v = none ∧ HScript h' d co wd (shN (m * 12) 84 12 cr) (shN m 7 1 ln) K ∧ Sm d (d + 5) h h') := by
  refine AM.intro mf_X7_dropMessage (by simp [Value.category]) (Nat.le_of_ble_eq_true rfl) (fun X hl hE hnm hX => ?_)
  subst hl
  subst hE
  show AW X _ _ 0 0 0 [some (.ref d), some (.int (nI m)), none, none, none] []
  have loop : ∀ (g p : Nat) (hh : HP) (x y : Option Value), m ≤ p → p ≤ 7 → 7 - p < g → HScript hh d co wd (shN (m * 12) (p * 12) 12 cr) (shN m p 1 ln) (K + 1) → Sm d (d + 5) h hh → AW X n hh 0 0 11 [some (.ref d), some (.int (nI m)), some (.int (nI p)), x, y] [] := by
    intro g
    induction g with
    | zero => intro p hh x y h1 h2 h3; omega
    | succ g ih =>
      intro p hh x y h1 h2 h3 e sm
      have e' := e
      obtain ⟨e0, e1, e2, e3, e4⟩ := e
      have inner : ∀ (g2 i : Nat) (hk : HP) (y : Option Value), p < 7 → i ≤ 12 → 12 - i < g2 → HScript hk d co wd (shN (m * 12) (p * 12 + i) 12 cr) (shN m (p + 1) 1 ln) (K + 1) → Sm d (d + 5) h hk → AW X n hk 0 0 35 [some (.ref d), some (.int (nI m)), some (.int (nI p)), some (.int (nI i)), y] [] := by
        intro g2
        induction g2 with
        | zero => intro i hk y hp k1 k2; omega
        | succ g2 ih2 =>
          intro i hk y hp k1 k2 e sm
          have e' := e
          obtain ⟨e0, e1, e2, e3, e4⟩ := e
          refine aw_iload_n hX dX7_dropMessage_35 rfl ?_
          refine aw_bipush hX (12) dX7_dropMessage_36 (by decide) ?_
          refine aw_icmp_ge hX 75 dX7_dropMessage_38 (by decide) (fun c_38 => ?_) (fun c_38 => ?_)
          · have hi : i = 12 := lp_out k1 (by decide) c_38
            subst hi
            refine aw_iinc hX (nI (p + 1)) dX7_dropMessage_75 rfl (nI_1 p) ?_
            refine aw_goto hX 11 dX7_dropMessage_78 (by decide) ?_
            refine ih (p + 1) hk _ _ (by omega) (by omega) (by omega) ?_ sm
            rw [show (p + 1) * 12 = p * 12 + 12 by omega]
            exact e'
          · have hi : i < 12 := lp_in k1 (by decide) c_38
            refine aw_iload_n hX dX7_dropMessage_41 rfl ?_
            refine aw_iconst hX (1) dX7_dropMessage_42 (by decide) ?_
            refine aw_iadd hX dX7_dropMessage_43 ?_
            rw [nI_1]
            refine aw_bipush hX (12) dX7_dropMessage_44 (by decide) ?_
            refine aw_imul hX dX7_dropMessage_46 ?_
            refine aw_iload_n hX dX7_dropMessage_47 rfl ?_
            refine aw_iadd hX dX7_dropMessage_48 ?_
            rw [idx12]
            refine aw_istore hX dX7_dropMessage_49 (Nat.le_of_ble_eq_true rfl) ?_
            refine aw_aload_n hX dX7_dropMessage_51 rfl ?_
            refine gt_X7_18 hX dX7_dropMessage_52 (by assumption) (by exact rfl) ?_
            refine aw_iload_n hX dX7_dropMessage_55 rfl ?_
            refine aw_bipush hX (12) dX7_dropMessage_56 (by decide) ?_
            refine aw_imul hX dX7_dropMessage_58 ?_
            refine aw_iload_n hX dX7_dropMessage_59 rfl ?_
            refine aw_iadd hX dX7_dropMessage_60 ?_
            refine aw_aload_n hX dX7_dropMessage_61 rfl ?_
            refine gt_X7_18 hX dX7_dropMessage_62 (by assumption) (by exact rfl) ?_
            refine aw_iload hX dX7_dropMessage_65 rfl ?_
            refine aw_ialdN hX ((p + 1) * 12 + i) (by assumption) rfl (by omega) (by first | decide | assumption) dX7_dropMessage_67 ?_
            rw [show nF (shN (m * 12) (p * 12 + i) 12 cr) ((p + 1) * 12 + i) = nI (cr (p * 12 + i + 12)) from congrArg nI ((shN_at cr (by omega)).trans (congrArg cr (by omega)))]
            refine aw_iastN hX (p * 12 + i) (by assumption) (idx12 p i) (by omega) (by first | decide | assumption) dX7_dropMessage_68 ?_
            rw [upd_nF, shN_up cr (by omega)]
            have e' := e'.a3 (shN (m * 12) (p * 12 + i + 1) 12 cr)
            have sm := sm.set (a := d + 3) (c := cI 96 (nF (shN (m * 12) (p * 12 + i + 1) 12 cr))) (by omega) (by omega)
            generalize hset hk (d + 3) (cI 96 (nF (shN (m * 12) (p * 12 + i + 1) 12 cr))) = hk2 at e' sm ⊢
            refine aw_iinc hX (nI (i + 1)) dX7_dropMessage_69 rfl (nI_1 i) ?_
            refine aw_goto hX 35 dX7_dropMessage_72 (by decide) ?_
            exact ih2 (i + 1) hk2 _ hp hi (by omega) e' sm
      refine aw_iload_n hX dX7_dropMessage_11 rfl ?_
      refine aw_iconst hX (1) dX7_dropMessage_12 (by decide) ?_
      refine aw_iadd hX dX7_dropMessage_13 ?_
      rw [nI_1]
      refine aw_bipush hX (8) dX7_dropMessage_14 (by decide) ?_
      refine aw_icmp_ge hX 81 dX7_dropMessage_16 (by decide) (fun c_16 => ?_) (fun c_16 => ?_)
      · have hp : p = 7 := by have := nI_leI (a := 8) (b := p + 1) (by decide) (by omega); have c2 := this.mp c_16; omega
        subst hp
        refine aw_aload_n hX dX7_dropMessage_81 rfl ?_
        refine aw_dup hX dX7_dropMessage_82 rfl ?_
        refine gt_X7_24 hX dX7_dropMessage_83 (by assumption) (by exact rfl) ?_
        refine aw_iconst hX (1) dX7_dropMessage_86 (by decide) ?_
        refine aw_isub hX dX7_dropMessage_87 ?_
        rw [nI_pred]
        refine pt_X7_24 hX dX7_dropMessage_88 (by assumption) (Nat.le_of_ble_eq_true rfl) ?_
        dsimp only [List.set_cons_zero, List.set_cons_succ]
        have e' := e'.a0 K
        exact aw_vret hX rfl rfl rfl rfl dX7_dropMessage_91 (by exact ⟨rfl, e', sm.tr (Sm.rf.set (Nat.le_refl _) (by omega)) (Nat.le_refl _) (Nat.le_refl _)⟩)
      · have hp : p < 7 := by have := nI_leI (a := 8) (b := p + 1) (by decide) (by omega); have c2 : ¬ 8 ≤ p + 1 := fun q => c_16 (this.mpr q); omega
        refine aw_aload_n hX dX7_dropMessage_19 rfl ?_
        refine gt_X7_21 hX dX7_dropMessage_20 (by assumption) (by exact rfl) ?_
        refine aw_iload_n hX dX7_dropMessage_23 rfl ?_
        refine aw_aload_n hX dX7_dropMessage_24 rfl ?_
        refine gt_X7_21 hX dX7_dropMessage_25 (by assumption) (by exact rfl) ?_
        refine aw_iload_n hX dX7_dropMessage_28 rfl ?_
        refine aw_iconst hX (1) dX7_dropMessage_29 (by decide) ?_
        refine aw_iadd hX dX7_dropMessage_30 ?_
        rw [nI_1]
        refine aw_ialdN hX (p + 1) (by assumption) rfl (by omega) (by first | decide | assumption) dX7_dropMessage_31 ?_
        rw [show nF (shN m p 1 ln) (p + 1) = nI (ln (p + 1)) from congrArg nI (shN_at ln (by omega))]
        refine aw_iastN hX (p) (by assumption) rfl (by omega) (by first | decide | assumption) dX7_dropMessage_32 ?_
        rw [upd_nF, shN_up ln h1]
        have e' := e'.a4 (shN m (p + 1) 1 ln)
        have sm := sm.set (a := d + 4) (c := cI 8 (nF (shN m (p + 1) 1 ln))) (by omega) (by omega)
        generalize hset hh (d + 4) (cI 8 (nF (shN m (p + 1) 1 ln))) = hk at e' sm ⊢
        refine aw_iconst hX (0) dX7_dropMessage_33 (by decide) ?_
        refine aw_istore_n hX dX7_dropMessage_34 (Nat.le_of_ble_eq_true rfl) ?_
        exact inner 13 0 hk _ hp (by omega) (by omega) e' sm
  have e0 := H.1
  refine aw_aload_n hX dX7_dropMessage_0 rfl ?_
  refine aw_iload_n hX dX7_dropMessage_1 rfl ?_
  refine aw_callVp hX RX7 rfl (tX7_hasMessageIn _ _ _ H (by omega) (by omega)) rfl mf_X7_hasMessage mi_X7_hasMessage ms_X7_hasMessage kl_X7_42 (by assumption) rfl rfl (by decide) (Nat.le_of_ble_eq_true rfl) dX7_dropMessage_2 (by decide) ?_
  refine aw_if_ne hX 9 dX7_dropMessage_5 (by decide) (fun c_5 => ?_) (fun c_5 => ?_)
  · refine aw_iload_n hX dX7_dropMessage_9 rfl ?_
    refine aw_istore_n hX dX7_dropMessage_10 (Nat.le_of_ble_eq_true rfl) ?_
    exact loop 8 m h _ _ (Nat.le_refl _) (by omega) (by omega) (by rw [shN_0, shN_0]; exact H) Sm.rf
  · exact absurd c_5 (by decide)
theorem tX7_stripColumns (l : Launch) (E : EV) (n : Nat) (H : HScript h d co wd cr ln K) {m : Nat} (hm : m < K) (hK : K ≤ 8) (h1 : 1 ≤ ln m) (h12 : ln m ≤ 12) (hc : ∀ i, i < ln m → cr (m * 12 + i) ≤ 26) : MX7_stripColumns l E n h [.ref d, .int (nI m)] (PR (.int (nI (tF wd (fun k => cr (m * 12 + k)) (ln m)))) h) := by
  have e := H
  obtain ⟨e0, e1, e2, e3, e4⟩ := H
  refine AM.intro mf_X7_stripColumns (by simp [Value.category]) (Nat.le_of_ble_eq_true rfl) (fun X hl hE hnm hX => ?_)
  subst hl
  subst hE
  show AW X _ _ 0 0 0 [some (.ref d), some (.int (nI m)), none, none, none] []
  have loop : ∀ (g j : Nat), j ≤ ln m → ln m - j < g → AW X n h 0 0 17 [some (.ref d), some (.int (nI m)), some (.int (nI (ln m))), some (.int (nI (ln m - 1 + sumN (fun k => wF wd (cr (m * 12 + k))) j))), some (.int (nI j))] [] := by
    intro g
    induction g with
    | zero => intro j h1 h2; omega
    | succ g ih =>
      intro j h3 h4
      refine aw_iload hX dX7_stripColumns_17 rfl ?_
      refine aw_iload_n hX dX7_stripColumns_19 rfl ?_
      refine aw_icmp_ge hX 43 dX7_stripColumns_20 (by decide) (fun c_20 => ?_) (fun c_20 => ?_)
      · have hj : j = ln m := lp_out h3 (by omega) c_20
        subst hj
        refine aw_iload_n hX dX7_stripColumns_43 rfl ?_
        exact aw_iret hX rfl rfl rfl rfl dX7_stripColumns_44 ⟨rfl, rfl⟩
      · have hj : j < ln m := lp_in h3 (by omega) c_20
        refine aw_iload_n hX dX7_stripColumns_23 rfl ?_
        refine aw_aload_n hX dX7_stripColumns_24 rfl ?_
        refine aw_aload_n hX dX7_stripColumns_25 rfl ?_
        refine aw_iload_n hX dX7_stripColumns_26 rfl ?_
        refine aw_iload hX dX7_stripColumns_27 rfl ?_
        refine aw_callVp hX RX7 rfl (tX7_characterOf _ _ _ e hm hK (by omega)) rfl mf_X7_characterOf mi_X7_characterOf ms_X7_characterOf kl_X7_49 (by assumption) rfl rfl (by decide) (Nat.le_of_ble_eq_true rfl) dX7_stripColumns_29 (by decide) ?_
        refine aw_callVp hX RX7 rfl (tX7_widthOf _ _ _ e (hc j hj)) rfl mf_X7_widthOf mi_X7_widthOf ms_X7_widthOf kl_X7_52 (by assumption) rfl rfl (by decide) (Nat.le_of_ble_eq_true rfl) dX7_stripColumns_32 (by decide) ?_
        refine aw_iadd hX dX7_stripColumns_35 ?_
        rw [nI_add, show ln m - 1 + sumN (fun k => wF wd (cr (m * 12 + k))) j + wF wd (cr (m * 12 + j)) = ln m - 1 + sumN (fun k => wF wd (cr (m * 12 + k))) (j + 1) from Nat.add_assoc _ _ _]
        refine aw_istore_n hX dX7_stripColumns_36 (Nat.le_of_ble_eq_true rfl) ?_
        refine aw_iinc hX (nI (j + 1)) dX7_stripColumns_37 rfl (nI_1 j) ?_
        refine aw_goto hX 17 dX7_stripColumns_40 (by decide) ?_
        exact ih (j + 1) hj (by omega)
  refine aw_aload_n hX dX7_stripColumns_0 rfl ?_
  refine aw_iload_n hX dX7_stripColumns_1 rfl ?_
  refine aw_callVp hX RX7 rfl (tX7_lengthOf _ _ _ e hm hK) rfl mf_X7_lengthOf mi_X7_lengthOf ms_X7_lengthOf kl_X7_45 (by assumption) rfl rfl (by decide) (Nat.le_of_ble_eq_true rfl) dX7_stripColumns_2 (by decide) ?_
  refine aw_istore_n hX dX7_stripColumns_5 (Nat.le_of_ble_eq_true rfl) ?_
  refine aw_iload_n hX dX7_stripColumns_6 rfl ?_
  refine aw_iconst hX (1) dX7_stripColumns_7 (by decide) ?_
  refine aw_isub hX dX7_stripColumns_8 ?_
  have hL : nI (ln m) - 1 = nI (ln m - 1) := pk_sub (b := 1) h1
  rw [hL]
  refine aw_iconst hX (0) dX7_stripColumns_9 (by decide) ?_
  refine aw_callSp hX RX7 rfl (tJ9_max _ _ _ _ (nI (ln m - 1)) 0) rfl mf_J9_max_7cf53 mt_J9_max_7cf53 kl_X7_36 rfl (by decide) (Nat.le_of_ble_eq_true rfl) dX7_stripColumns_10 (by decide) ?_
  rw [if_neg (nI_pos (by omega))]
  refine aw_istore_n hX dX7_stripColumns_13 (Nat.le_of_ble_eq_true rfl) ?_
  refine aw_iconst hX (0) dX7_stripColumns_14 (by decide) ?_
  refine aw_istore hX dX7_stripColumns_15 (Nat.le_of_ble_eq_true rfl) ?_
  exact loop (ln m + 1) 0 (by omega) (by omega)
theorem tX7_stripBits (l : Launch) (E : EV) (n : Nat) (H : HScript h d co wd cr ln K) {m : Nat} (hm : m < K) (hK : K ≤ 8) (h12 : ln m ≤ 12) (hc : ∀ i, i < ln m → cr (m * 12 + i) ≤ 26) (hw : ∀ c, c < 26 → wd c ≤ 5) {z : Int} (hz1 : -1000 ≤ z) (hz2 : z ≤ 1000) : MX7_stripBits l E n h [.ref d, .int (nI m), .int (iI z)] (PR (.int (sbF co wd (fun k => cr (m * 12 + k)) (ln m) 0 z)) h) := by
  have e := H
  obtain ⟨e0, e1, e2, e3, e4⟩ := H
  have hwF : ∀ c, c ≤ 26 → wF wd c ≤ 5 := fun c hc => by
    unfold wF
    split
    · decide
    · exact hw c (by omega)
  refine AM.intro mf_X7_stripBits (by simp [Value.category]) (Nat.le_of_ble_eq_true rfl) (fun X hl hE hnm hX => ?_)
  subst hl
  subst hE
  show AW X _ _ 0 0 0 [some (.ref d), some (.int (nI m)), some (.int (iI z)), none, none, none, none] []
  have loop : ∀ (r i : Nat) (y : Int) (a b : Option Value), i + r = ln m → -1000 ≤ y → y ≤ 1000 → sbF co wd (fun k => cr (m * 12 + k)) (ln m) 0 z = sbF co wd (fun k => cr (m * 12 + k)) r i y → AW X n h 0 0 5 [some (.ref d), some (.int (nI m)), some (.int (iI z)), some (.int (iI y)), some (.int (nI i)), a, b] [] := by
    intro r
    induction r with
    | zero =>
      intro i y a b h1 h2 h3 h4
      rw [sbF] at h4
      refine aw_iload hX dX7_stripBits_5 rfl ?_
      refine aw_aload_n hX dX7_stripBits_7 rfl ?_
      refine aw_iload_n hX dX7_stripBits_8 rfl ?_
      refine aw_callVp hX RX7 rfl (tX7_lengthOf _ _ _ e hm hK) rfl mf_X7_lengthOf mi_X7_lengthOf ms_X7_lengthOf kl_X7_45 (by assumption) rfl rfl (by decide) (Nat.le_of_ble_eq_true rfl) dX7_stripBits_9 (by decide) ?_
      refine aw_icmp_ge hX 63 dX7_stripBits_12 (by decide) (fun c_12 => ?_) (fun c_12 => ?_)
      · refine aw_iconst hX (0) dX7_stripBits_63 (by decide) ?_
        exact aw_iret hX rfl rfl rfl rfl dX7_stripBits_64 (by exact ⟨by rw [h4], rfl⟩)
      · exact absurd (nI_le (a := ln m) (b := i) (by omega) (by omega)) c_12
    | succ r ih =>
      intro i y a b h1 h2 h3 h4
      have hi : i < ln m := by omega
      have hy0 : iI y < 0 ↔ y < 0 := iI_lt (b := 0) (by omega) (by omega) (by decide) (by decide)
      have hw5 := hwF _ (hc i hi)
      have hyw : iI y < nI (wF wd (cr (m * 12 + i))) ↔ y < (wF wd (cr (m * 12 + i)) : Int) := by
        rw [iI_n]
        exact iI_lt (by omega) (by omega) (by omega) (by omega)
      rw [sbF] at h4
      refine aw_iload hX dX7_stripBits_5 rfl ?_
      refine aw_aload_n hX dX7_stripBits_7 rfl ?_
      refine aw_iload_n hX dX7_stripBits_8 rfl ?_
      refine aw_callVp hX RX7 rfl (tX7_lengthOf _ _ _ e hm hK) rfl mf_X7_lengthOf mi_X7_lengthOf ms_X7_lengthOf kl_X7_45 (by assumption) rfl rfl (by decide) (Nat.le_of_ble_eq_true rfl) dX7_stripBits_9 (by decide) ?_
      refine aw_icmp_ge hX 63 dX7_stripBits_12 (by decide) (fun c_12 => ?_) (fun c_12 => ?_)
      · exact absurd c_12 (nI_ge hi (by omega))
      · refine aw_iload_n hX dX7_stripBits_15 rfl ?_
        refine aw_if_lt hX 63 dX7_stripBits_16 (by decide) (fun c_16 => ?_) (fun c_16 => ?_)
        · rw [if_pos (hy0.mp c_16)] at h4
          refine aw_iconst hX (0) dX7_stripBits_63 (by decide) ?_
          exact aw_iret hX rfl rfl rfl rfl dX7_stripBits_64 ⟨by rw [h4], rfl⟩
        · have hy : ¬ y < 0 := fun q => c_16 (hy0.mpr q)
          rw [if_neg hy] at h4
          refine aw_aload_n hX dX7_stripBits_19 rfl ?_
          refine aw_iload_n hX dX7_stripBits_20 rfl ?_
          refine aw_iload hX dX7_stripBits_21 rfl ?_
          refine aw_callVp hX RX7 rfl (tX7_characterOf _ _ _ e hm hK (by omega)) rfl mf_X7_characterOf mi_X7_characterOf ms_X7_characterOf kl_X7_49 (by assumption) rfl rfl (by decide) (Nat.le_of_ble_eq_true rfl) dX7_stripBits_23 (by decide) ?_
          refine aw_istore hX dX7_stripBits_26 (Nat.le_of_ble_eq_true rfl) ?_
          refine aw_aload_n hX dX7_stripBits_28 rfl ?_
          refine aw_iload hX dX7_stripBits_29 rfl ?_
          refine aw_callVp hX RX7 rfl (tX7_widthOf _ _ _ e (hc i hi)) rfl mf_X7_widthOf mi_X7_widthOf ms_X7_widthOf kl_X7_52 (by assumption) rfl rfl (by decide) (Nat.le_of_ble_eq_true rfl) dX7_stripBits_31 (by decide) ?_
          refine aw_istore hX dX7_stripBits_34 (Nat.le_of_ble_eq_true rfl) ?_
          refine aw_iload_n hX dX7_stripBits_36 rfl ?_
          refine aw_iload hX dX7_stripBits_37 rfl ?_
          refine aw_icmp_ge hX 50 dX7_stripBits_39 (by decide) (fun c_39 => ?_) (fun c_39 => ?_)
          · have hge : ¬ y < (wF wd (cr (m * 12 + i)) : Int) := fun q => Int32.not_le.mpr (hyw.mpr q) c_39
            rw [if_neg hge] at h4
            refine aw_iload_n hX dX7_stripBits_50 rfl ?_
            refine aw_iload hX dX7_stripBits_51 rfl ?_
            refine aw_iconst hX (1) dX7_stripBits_53 (by decide) ?_
            refine aw_iadd hX dX7_stripBits_54 ?_
            rw [nI_1]
            refine aw_isub hX dX7_stripBits_55 ?_
            rw [iI_n (wF wd (cr (m * 12 + i)) + 1), iI_sub]
            refine aw_istore_n hX dX7_stripBits_56 (Nat.le_of_ble_eq_true rfl) ?_
            refine aw_iinc hX (nI (i + 1)) dX7_stripBits_57 rfl (nI_1 i) ?_
            refine aw_goto hX 5 dX7_stripBits_60 (by decide) ?_
            exact ih (i + 1) (y - ((wF wd (cr (m * 12 + i)) + 1 : Nat) : Int)) _ _ (by omega) (by omega) (by omega) (by rw [h4]; push_cast; rfl)
          · have hlt := hyw.mp (Int32.not_le.mp c_39)
            rw [if_pos hlt] at h4
            rw [iI_nn (Int.not_lt.mp hy)]
            refine aw_aload_n hX dX7_stripBits_42 rfl ?_
            refine aw_iload hX dX7_stripBits_43 rfl ?_
            refine aw_iload_n hX dX7_stripBits_45 rfl ?_
            refine aw_callVp hX RX7 rfl (tX7_columnOf _ _ _ e (hc i hi) (by omega) hw5) rfl mf_X7_columnOf mi_X7_columnOf ms_X7_columnOf kl_X7_55 (by assumption) rfl rfl (by decide) (Nat.le_of_ble_eq_true rfl) dX7_stripBits_46 (by decide) ?_
            exact aw_iret hX rfl rfl rfl rfl dX7_stripBits_49 (by exact ⟨by rw [h4], rfl⟩)
  refine aw_iload_n hX dX7_stripBits_0 rfl ?_
  refine aw_istore_n hX dX7_stripBits_1 (Nat.le_of_ble_eq_true rfl) ?_
  refine aw_iconst hX (0) dX7_stripBits_2 (by decide) ?_
  refine aw_istore hX dX7_stripBits_3 (Nat.le_of_ble_eq_true rfl) ?_
  exact loop (ln m) 0 z _ _ (by omega) hz1 hz2 rfl
end SCRIPT2
/-! State: the dots' part, the meter's, the script's, the numbers -/
abbrev DV : Type := Int32 × IF × IF × IF × IF × IF
abbrev MV : Type := Int32 × Int32 × Int32 × Nat × IF
abbrev SV : Type := IF × (Nat → Nat) × (Nat → Nat) × (Nat → Nat) × Nat
abbrev PV : Type := DV × MV × SV × IF
abbrev HD (h : HP) (d : Nat) (v : DV) : Prop := HDots h d v.1 v.2.1 v.2.2.1 v.2.2.2.1 v.2.2.2.2.1 v.2.2.2.2.2
abbrev HM (h : HP) (d : Nat) (v : MV) : Prop := HMeter h d v.1 v.2.1 v.2.2.1 v.2.2.2.1 v.2.2.2.2
abbrev HS (h : HP) (d : Nat) (v : SV) : Prop := HScript h d v.1 v.2.1 v.2.2.1 v.2.2.2.1 v.2.2.2.2
def HState (h : HP) (p : Nat) (v : PV) : Prop :=
  h p = some (cO 8 [.ref (p + 1), .ref (p + 7), .ref (p + 9), .ref (p + 14)]) ∧ HD h (p + 1) v.1 ∧ HM h (p + 7) v.2.1 ∧ HS h (p + 9) v.2.2.1 ∧ h (p + 14) = some (cI 3 v.2.2.2)
section STATE
variable {h : HP} {p : Nat} {v : PV}
theorem HState.sm {h' : HP} {lo hi : Nat} (H : HState h p v) (s : Sm lo hi h h') (hq : hi ≤ p ∨ p + 15 ≤ lo) : HState h' p v :=
  ⟨(s.at (by omega)).trans H.1, H.2.1.sm s (by omega), H.2.2.1.sm s (by omega), H.2.2.2.1.sm s (by omega), (s.at (by omega)).trans H.2.2.2.2⟩
theorem HState.off (H : HState h p v) {a : Nat} (c : AC) (ha : a < p ∨ p + 15 ≤ a) : HState (hset h a c) p v :=
  H.sm (lo := a) (hi := a + 1) (Sm.rf.set (Nat.le_refl _) (Nat.lt_succ_self _)) (by omega)
theorem HState.dots {h' : HP} (H : HState h p v) {v' : DV} (H' : HD h' (p + 1) v') (s : Sm (p + 1) (p + 1 + 6) h h') : HState h' p (v', v.2) :=
  ⟨(s.at (by omega)).trans H.1, H', H.2.2.1.sm s (by omega), H.2.2.2.1.sm s (by omega), (s.at (by omega)).trans H.2.2.2.2⟩
theorem HState.meter {h' : HP} (H : HState h p v) {v' : MV} (H' : HM h' (p + 7) v') (s : Sm (p + 7) (p + 7 + 2) h h') : HState h' p (v.1, v', v.2.2) :=
  ⟨(s.at (by omega)).trans H.1, H.2.1.sm s (by omega), H', H.2.2.2.1.sm s (by omega), (s.at (by omega)).trans H.2.2.2.2⟩
theorem HState.script {h' : HP} (H : HState h p v) {v' : SV} (H' : HS h' (p + 9) v') (s : Sm (p + 9) (p + 9 + 5) h h') : HState h' p (v.1, v.2.1, v', v.2.2.2) :=
  ⟨(s.at (by omega)).trans H.1, H.2.1.sm s (by omega), H.2.2.1.sm s (by omega), H', (s.at (by omega)).trans H.2.2.2.2⟩
theorem HState.nums (H : HState h p v) (f : IF) : HState (hset h (p + 14) (cI 3 f)) p (v.1, v.2.1, v.2.2.1, f) :=
  ⟨(hset_ne _ _ (by omega)).trans H.1, H.2.1.off _ (by omega), H.2.2.1.off _ (by omega), H.2.2.2.1.off _ (by omega), hset_eq _ _ _⟩
theorem tX8_copyFrom (l : Launch) (E : EV) (n : Nat) {p' : Nat} {v' : PV} (H : HState h p v) (H' : HState h p' v') (hd : p + 15 ≤ p' ∨ p' + 15 ≤ p) : MX8_copyFrom l E n h [.ref p, .ref p'] (fun r h' => r = none ∧ HState h' p v' ∧ Sm p (p + 15) h h') := by
  have e := H
  have g := H'
  obtain ⟨e0, e1, e2, e3, e4⟩ := H
  obtain ⟨g0, g1, g2, g3, g4⟩ := H'
  have d0 := e1.1
  refine AM.intro mf_X8_copyFrom (by simp [Value.category]) (Nat.le_of_ble_eq_true rfl) (fun X hl hE hnm hX => ?_)
  subst hl
  subst hE
  show AW X _ _ 0 0 0 [some (.ref p), some (.ref p')] []
  refine aw_aload_n hX dX8_copyFrom_0 rfl ?_
  refine gt_X8_12 hX dX8_copyFrom_1 (by assumption) (by exact rfl) ?_
  refine aw_aload_n hX dX8_copyFrom_4 rfl ?_
  refine gt_X8_12 hX dX8_copyFrom_5 (by assumption) (by exact rfl) ?_
  refine aw_callV0 hX RX8 rfl (tX0_copyFrom _ _ _ e1 g1 (by omega)) rfl mf_X0_copyFrom mi_X0_copyFrom ms_X0_copyFrom kl_X8_44 (by assumption) rfl rfl (by decide) (Nat.le_of_ble_eq_true rfl) dX8_copyFrom_8 (by decide) (fun v_8 h_8 p_8 => ?_)
  obtain ⟨rfl, q, sm⟩ := p_8
  have e := e.dots (v' := v'.1) q sm
  have g := g.sm sm (by omega)
  have sm0 := Sm.tr (lo := p) (hi := p + 15) Sm.rf sm (by omega) (by omega)
  obtain ⟨e0, e1, e2, e3, e4⟩ := id e
  obtain ⟨g0, g1, g2, g3, g4⟩ := id g
  have d0 := e2.1
  refine aw_aload_n hX dX8_copyFrom_11 rfl ?_
  refine gt_X8_21 hX dX8_copyFrom_12 (by assumption) (by exact rfl) ?_
  refine aw_aload_n hX dX8_copyFrom_15 rfl ?_
  refine gt_X8_21 hX dX8_copyFrom_16 (by assumption) (by exact rfl) ?_
  refine aw_callV0 hX RX8 rfl (tX3_copyFrom _ _ _ e2 g2 (by omega)) rfl mf_X3_copyFrom mi_X3_copyFrom ms_X3_copyFrom kl_X8_48 (by assumption) rfl rfl (by decide) (Nat.le_of_ble_eq_true rfl) dX8_copyFrom_19 (by decide) (fun v_19 h_19 p_19 => ?_)
  obtain ⟨rfl, q, sm⟩ := p_19
  have e := e.meter (v' := v'.2.1) q sm
  have g := g.sm sm (by omega)
  have sm0 := sm0.tr sm (by omega) (by omega)
  obtain ⟨e0, e1, e2, e3, e4⟩ := id e
  obtain ⟨g0, g1, g2, g3, g4⟩ := id g
  have d0 := e3.1
  refine aw_aload_n hX dX8_copyFrom_22 rfl ?_
  refine gt_X8_28 hX dX8_copyFrom_23 (by assumption) (by exact rfl) ?_
  refine aw_aload_n hX dX8_copyFrom_26 rfl ?_
  refine gt_X8_28 hX dX8_copyFrom_27 (by assumption) (by exact rfl) ?_
  refine aw_callV0 hX RX8 rfl (tX7_copyFrom _ _ _ e3 g3 (by omega)) rfl mf_X7_copyFrom mi_X7_copyFrom ms_X7_copyFrom kl_X8_51 (by assumption) rfl rfl (by decide) (Nat.le_of_ble_eq_true rfl) dX8_copyFrom_30 (by decide) (fun v_30 h_30 p_30 => ?_)
  obtain ⟨rfl, q, sm⟩ := p_30
  have e := e.script (v' := v'.2.2.1) q sm
  have g := g.sm sm (by omega)
  have sm0 := sm0.tr sm (by omega) (by omega)
  obtain ⟨e0, e1, e2, e3, e4⟩ := id e
  obtain ⟨g0, g1, g2, g3, g4⟩ := id g
  refine aw_aload_n hX dX8_copyFrom_33 rfl ?_
  refine gt_X8_41 hX dX8_copyFrom_34 (by assumption) (by exact rfl) ?_
  refine aw_aload_n hX dX8_copyFrom_37 rfl ?_
  refine gt_X8_41 hX dX8_copyFrom_38 (by assumption) (by exact rfl) ?_
  refine aw_callSN0 hX RX8 "FlipBoard" rfl (tX9_copy _ _ _ g4 e4 (by decide)) rfl mf_X9_copy mt_X9_copy kl_X8_54 rfl (by decide) (Nat.le_of_ble_eq_true rfl) dX8_copyFrom_41 (by decide) (fun v_41 h_41 p_41 => ?_)
  obtain ⟨rfl, rfl⟩ := p_41
  have e := e.nums v'.2.2.2
  exact aw_vret hX rfl rfl rfl rfl dX8_copyFrom_44 (by exact ⟨rfl, e, sm0.set (by omega) (by omega)⟩)
theorem tX8_hasNumber (l : Launch) (E : EV) (n : Nat) (H : HState h p v) (c : Int32) : MX8_hasNumber l E n h [.ref p, .int c] (PR (.int (bI (0 ≤ c ∧ c < 3))) h) := by
  obtain ⟨e0, e1, e2, e3, e4⟩ := H
  refine AM.intro mf_X8_hasNumber (by simp [Value.category]) (Nat.le_of_ble_eq_true rfl) (fun X hl hE hnm hX => ?_)
  subst hl
  subst hE
  show AW X _ _ 0 0 0 [some (.ref p), some (.int c)] []
  refine aw_iload_n hX dX8_hasNumber_0 rfl ?_
  refine aw_if_lt hX 17 dX8_hasNumber_1 (by decide) (fun c_1 => ?_) (fun c_1 => ?_)
  · refine aw_iconst hX (0) dX8_hasNumber_17 (by decide) ?_
    exact aw_zret hX rfl (by first | exact Or.inl rfl | exact Or.inr rfl | assumption) rfl rfl rfl dX8_hasNumber_18 (by first | exact prT (by simp only [bI_eq0, Decidable.not_not, Int32.lt_iff_toInt_lt, Int32.le_iff_toInt_le, Int32.reduceToInt] at c_1 ⊢; omega) | exact prF (by simp only [bI_eq0, Decidable.not_not, Int32.lt_iff_toInt_lt, Int32.le_iff_toInt_le, Int32.reduceToInt] at c_1 ⊢; omega))
  · refine aw_iload_n hX dX8_hasNumber_4 rfl ?_
    refine aw_aload_n hX dX8_hasNumber_5 rfl ?_
    refine gt_X8_41 hX dX8_hasNumber_6 (by assumption) (by exact rfl) ?_
    refine aw_alen hX _ (by assumption) (by decide) rfl dX8_hasNumber_9 ?_
    rw [show Int32.ofNat 3 = 3 from rfl]
    refine aw_icmp_ge hX 17 dX8_hasNumber_10 (by decide) (fun c_10 => ?_) (fun c_10 => ?_)
    · refine aw_iconst hX (0) dX8_hasNumber_17 (by decide) ?_
      exact aw_zret hX rfl (by first | exact Or.inl rfl | exact Or.inr rfl | assumption) rfl rfl rfl dX8_hasNumber_18 (by first | exact prT (by simp only [bI_eq0, Decidable.not_not, Int32.lt_iff_toInt_lt, Int32.le_iff_toInt_le, Int32.reduceToInt] at c_1 c_10 ⊢; omega) | exact prF (by simp only [bI_eq0, Decidable.not_not, Int32.lt_iff_toInt_lt, Int32.le_iff_toInt_le, Int32.reduceToInt] at c_1 c_10 ⊢; omega))
    · refine aw_iconst hX (1) dX8_hasNumber_13 (by decide) ?_
      refine aw_goto hX 18 dX8_hasNumber_14 (by decide) ?_
      exact aw_zret hX rfl (by first | exact Or.inl rfl | exact Or.inr rfl | assumption) rfl rfl rfl dX8_hasNumber_18 (by first | exact prT (by simp only [bI_eq0, Decidable.not_not, Int32.lt_iff_toInt_lt, Int32.le_iff_toInt_le, Int32.reduceToInt] at c_1 c_10 ⊢; omega) | exact prF (by simp only [bI_eq0, Decidable.not_not, Int32.lt_iff_toInt_lt, Int32.le_iff_toInt_le, Int32.reduceToInt] at c_1 c_10 ⊢; omega))
/-- a dot is tried -/
def tryF (v : PV) (j i : Nat) : PV :=
  if v.1.2.2.2.1 j &&& mk i = 0 then
    (((v.1.1, upd v.1.2.1 j (v.1.2.1 j ^^^ mk i), v.1.2.2.1, (if v.1.2.2.2.2.2 (j * 7 + i) + 1 < v.2.2.2 2 then v.1.2.2.2.1 else upd v.1.2.2.2.1 j (v.1.2.2.2.1 j ||| mk i)), v.1.2.2.2.2.1, upd v.1.2.2.2.2.2 (j * 7 + i) (v.1.2.2.2.2.2 (j * 7 + i) + 1)) : DV), ((v.2.1.1 + 1, v.2.1.2) : MV), v.2.2)
  else (((v.1.1, v.1.2.1, v.1.2.2.1, v.1.2.2.2.1, upd v.1.2.2.2.2.1 j (v.1.2.2.2.2.1 j ||| mk i), v.1.2.2.2.2.2) : DV), ((v.2.1.1, v.2.1.2.1 + 1, v.2.1.2.2) : MV), v.2.2)
theorem tX8_tryDot (l : Launch) (E : EV) (n : Nat) (H : HState h p v) {j i : Nat} (hj : j < 40) (hw : nI j < v.1.1) (hi : i < 7) : MX8_tryDot l E n h [.ref p, .int (nI j), .int (nI i)] (fun r h' => r = none ∧ HState h' p (tryF v j i) ∧ Sm p (p + 15) h h') := by
  have e := H
  obtain ⟨e0, e1, e2, e3, e4⟩ := H
  have d0 := e1.1
  by_cases hs : v.1.2.2.2.1 j &&& mk i = 0
  · rw [tryF, if_pos hs]
    refine AM.intro mf_X8_tryDot (by simp [Value.category]) (Nat.le_of_ble_eq_true rfl) (fun X hl hE hnm hX => ?_)
    subst hl
    subst hE
    show AW X _ _ 0 0 0 [some (.ref p), some (.int (nI j)), some (.int (nI i))] []
    refine aw_aload_n hX dX8_tryDot_0 rfl ?_
    refine gt_X8_12 hX dX8_tryDot_1 (by assumption) (by exact rfl) ?_
    refine aw_iload_n hX dX8_tryDot_4 rfl ?_
    refine aw_iload_n hX dX8_tryDot_5 rfl ?_
    refine aw_callVp hX RX8 rfl (tX0_isStuck _ _ _ e1 hj hw hi) rfl mf_X0_isStuck mi_X0_isStuck ms_X0_isStuck kl_X8_58 (by assumption) rfl rfl (by decide) (Nat.le_of_ble_eq_true rfl) dX8_tryDot_6 (by decide) ?_
    rw [bI_f (fun q => q hs)]
    refine aw_if_eq hX 35 dX8_tryDot_9 (by decide) (fun c_9 => ?_) (fun c_9 => ?_)
    · refine aw_aload_n hX dX8_tryDot_35 rfl ?_
      refine gt_X8_12 hX dX8_tryDot_36 (by assumption) (by exact rfl) ?_
      refine aw_iload_n hX dX8_tryDot_39 rfl ?_
      refine aw_iload_n hX dX8_tryDot_40 rfl ?_
      refine aw_callV0 hX RX8 rfl (tX0_flip _ _ _ e1 hj hw hi) rfl mf_X0_flip mi_X0_flip ms_X0_flip kl_X8_70 (by assumption) rfl rfl (by decide) (Nat.le_of_ble_eq_true rfl) dX8_tryDot_41 (by decide) (fun v_41 h_41 p_41 => ?_)
      obtain ⟨rfl, q, sm⟩ := p_41
      have e := e.dots (v' := (v.1.1, upd v.1.2.1 j (v.1.2.1 j ^^^ mk i), v.1.2.2.1, v.1.2.2.2.1, v.1.2.2.2.2.1, upd v.1.2.2.2.2.2 (j * 7 + i) (v.1.2.2.2.2.2 (j * 7 + i) + 1))) q sm
      have sm0 := Sm.tr (lo := p) (hi := p + 15) Sm.rf sm (by omega) (by omega)
      obtain ⟨e0, e1, e2, e3, e4⟩ := id e
      have m0 := e2.1
      refine aw_aload_n hX dX8_tryDot_44 rfl ?_
      refine gt_X8_21 hX dX8_tryDot_45 (by assumption) (by exact rfl) ?_
      refine aw_dup hX dX8_tryDot_48 rfl ?_
      refine gt_X8_73 hX dX8_tryDot_49 (by assumption) (by exact rfl) ?_
      refine aw_iconst hX (1) dX8_tryDot_52 (by decide) ?_
      refine aw_iadd hX dX8_tryDot_53 ?_
      refine pt_X8_73 hX dX8_tryDot_54 (by assumption) (Nat.le_of_ble_eq_true rfl) ?_
      dsimp only [List.set_cons_zero, List.set_cons_succ]
      have q := e2.a0 (v.2.1.1 + 1) v.2.1.2.1 v.2.1.2.2.1 v.2.1.2.2.2.1
      have e := e.meter (v' := (v.2.1.1 + 1, v.2.1.2)) q (Sm.rf.set (by omega) (by omega))
      have sm0 := sm0.set (a := p + 7) (c := cO 3 [.int (v.2.1.1 + 1), .int v.2.1.2.1, .int v.2.1.2.2.1, .int (nI v.2.1.2.2.2.1), .ref (p + 7 + 1)]) (by omega) (by omega)
      obtain ⟨e0, e1, e2, e3, e4⟩ := id e
      have d0 := e1.1
      refine aw_aload_n hX dX8_tryDot_57 rfl ?_
      refine gt_X8_12 hX dX8_tryDot_58 (by assumption) (by exact rfl) ?_
      refine aw_iload_n hX dX8_tryDot_61 rfl ?_
      refine aw_iload_n hX dX8_tryDot_62 rfl ?_
      refine aw_callVp hX RX8 rfl (tX0_flipsOf _ _ _ e1 hj hw hi) rfl mf_X0_flipsOf mi_X0_flipsOf ms_X0_flipsOf kl_X8_76 (by assumption) rfl rfl (by decide) (Nat.le_of_ble_eq_true rfl) dX8_tryDot_63 (by decide) ?_
      refine aw_aload_n hX dX8_tryDot_66 rfl ?_
      refine gt_X8_41 hX dX8_tryDot_67 (by assumption) (by exact rfl) ?_
      refine aw_iconst hX (2) dX8_tryDot_70 (by decide) ?_
      refine aw_ialdN hX (2) (by assumption) rfl (by decide) (by first | decide | assumption) dX8_tryDot_71 ?_
      refine aw_icmp_lt hX 84 dX8_tryDot_72 (by decide) (fun c_72 => ?_) (fun c_72 => ?_)
      · have hlt : v.1.2.2.2.2.2 (j * 7 + i) + 1 < v.2.2.2 2 := by (have q := c_72; change upd _ _ _ _ < _ at q; rw [pk_us] at q; exact q)
        rw [if_pos hlt] at hX
        exact aw_vret hX rfl rfl rfl rfl dX8_tryDot_84 ⟨rfl, e, sm0⟩
      · have hlt : ¬ v.1.2.2.2.2.2 (j * 7 + i) + 1 < v.2.2.2 2 := fun q => c_72 (by show upd _ _ _ _ < _; rw [pk_us]; exact q)
        rw [if_neg hlt] at hX
        refine aw_aload_n hX dX8_tryDot_75 rfl ?_
        refine gt_X8_12 hX dX8_tryDot_76 (by assumption) (by exact rfl) ?_
        refine aw_iload_n hX dX8_tryDot_79 rfl ?_
        refine aw_iload_n hX dX8_tryDot_80 rfl ?_
        refine aw_callV0 hX RX8 rfl (tX0_stick _ _ _ e1 hj hw hi) rfl mf_X0_stick mi_X0_stick ms_X0_stick kl_X8_80 (by assumption) rfl rfl (by decide) (Nat.le_of_ble_eq_true rfl) dX8_tryDot_81 (by decide) (fun v_81 h_81 p_81 => ?_)
        obtain ⟨rfl, q, sm⟩ := p_81
        have e := e.dots (v' := (v.1.1, upd v.1.2.1 j (v.1.2.1 j ^^^ mk i), v.1.2.2.1, upd v.1.2.2.2.1 j (v.1.2.2.2.1 j ||| mk i), v.1.2.2.2.2.1, upd v.1.2.2.2.2.2 (j * 7 + i) (v.1.2.2.2.2.2 (j * 7 + i) + 1))) q sm
        exact aw_vret hX rfl rfl rfl rfl dX8_tryDot_84 (by exact ⟨rfl, e, sm0.tr sm (by omega) (by omega)⟩)
    · exact absurd rfl c_9
  · rw [tryF, if_neg hs]
    refine AM.intro mf_X8_tryDot (by simp [Value.category]) (Nat.le_of_ble_eq_true rfl) (fun X hl hE hnm hX => ?_)
    subst hl
    subst hE
    show AW X _ _ 0 0 0 [some (.ref p), some (.int (nI j)), some (.int (nI i))] []
    refine aw_aload_n hX dX8_tryDot_0 rfl ?_
    refine gt_X8_12 hX dX8_tryDot_1 (by assumption) (by exact rfl) ?_
    refine aw_iload_n hX dX8_tryDot_4 rfl ?_
    refine aw_iload_n hX dX8_tryDot_5 rfl ?_
    refine aw_callVp hX RX8 rfl (tX0_isStuck _ _ _ e1 hj hw hi) rfl mf_X0_isStuck mi_X0_isStuck ms_X0_isStuck kl_X8_58 (by assumption) rfl rfl (by decide) (Nat.le_of_ble_eq_true rfl) dX8_tryDot_6 (by decide) ?_
    rw [bI_t hs]
    refine aw_if_eq hX 35 dX8_tryDot_9 (by decide) (fun c_9 => ?_) (fun c_9 => ?_)
    · exact absurd c_9 (by decide)
    · refine aw_aload_n hX dX8_tryDot_12 rfl ?_
      refine gt_X8_12 hX dX8_tryDot_13 (by assumption) (by exact rfl) ?_
      refine aw_iload_n hX dX8_tryDot_16 rfl ?_
      refine aw_iload_n hX dX8_tryDot_17 rfl ?_
      refine aw_callV0 hX RX8 rfl (tX0_makeKnown _ _ _ e1 hj hw hi) rfl mf_X0_makeKnown mi_X0_makeKnown ms_X0_makeKnown kl_X8_62 (by assumption) rfl rfl (by decide) (Nat.le_of_ble_eq_true rfl) dX8_tryDot_18 (by decide) (fun v_18 h_18 p_18 => ?_)
      obtain ⟨rfl, q, sm⟩ := p_18
      have e := e.dots (v' := (v.1.1, v.1.2.1, v.1.2.2.1, v.1.2.2.2.1, upd v.1.2.2.2.2.1 j (v.1.2.2.2.2.1 j ||| mk i), v.1.2.2.2.2.2)) q sm
      have sm0 := Sm.tr (lo := p) (hi := p + 15) Sm.rf sm (by omega) (by omega)
      obtain ⟨e0, e1, e2, e3, e4⟩ := id e
      have m0 := e2.1
      refine aw_aload_n hX dX8_tryDot_21 rfl ?_
      refine gt_X8_21 hX dX8_tryDot_22 (by assumption) (by exact rfl) ?_
      refine aw_dup hX dX8_tryDot_25 rfl ?_
      refine gt_X8_66 hX dX8_tryDot_26 (by assumption) (by exact rfl) ?_
      refine aw_iconst hX (1) dX8_tryDot_29 (by decide) ?_
      refine aw_iadd hX dX8_tryDot_30 ?_
      refine pt_X8_66 hX dX8_tryDot_31 (by assumption) (Nat.le_of_ble_eq_true rfl) ?_
      dsimp only [List.set_cons_zero, List.set_cons_succ]
      have q := e2.a0 v.2.1.1 (v.2.1.2.1 + 1) v.2.1.2.2.1 v.2.1.2.2.2.1
      have e := e.meter (v' := (v.2.1.1, v.2.1.2.1 + 1, v.2.1.2.2)) q (Sm.rf.set (by omega) (by omega))
      have sm0 := sm0.set (a := p + 7) (c := cO 3 [.int v.2.1.1, .int (v.2.1.2.1 + 1), .int v.2.1.2.2.1, .int (nI v.2.1.2.2.2.1), .ref (p + 7 + 1)]) (by omega) (by omega)
      exact aw_vret hX rfl rfl rfl rfl dX8_tryDot_34 (by exact ⟨rfl, e, sm0⟩)
end STATE
