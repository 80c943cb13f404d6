/-! the reference: pictures -/
def ofF (wd ch : Nat → Nat) (k : Nat) : Nat := sumN (fun j => wF wd (ch j) + 1) k
theorem ofF_s (wd ch : Nat → Nat) (k : Nat) : ofF wd ch (k + 1) = ofF wd ch k + (wF wd (ch k) + 1) := rfl
theorem sb_skip (co : IF) (wd ch : Nat → Nat) {len : Nat} : ∀ (k : Nat) (z : Int), k ≤ len → (ofF wd ch k : Int) ≤ z → sbF co wd ch len 0 z = sbF co wd ch (len - k) k (z - (ofF wd ch k : Int))
  | 0, z, _, _ => by
    rw [show (ofF wd ch 0 : Int) = 0 from rfl, Int.sub_zero]
    rfl
  | k + 1, z, hk, hz => by
    rw [ofF_s] at hz ⊢
    rw [sb_skip co wd ch k z (by omega) (by omega)]
    obtain ⟨r, hr⟩ : ∃ r, len - k = r + 1 := ⟨len - k - 1, by omega⟩
    rw [hr, sbF, if_neg (by omega), if_neg (by omega), show len - (k + 1) = r by omega]
    congr 1
    omega
theorem sb_char (co : IF) (wd ch : Nat → Nat) {len k i : Nat} (hk : k < len) (hi : i < wF wd (ch k)) {z : Int} (e : z = (ofF wd ch k : Int) + i) : sbF co wd ch len 0 z = cF co (ch k) i := by
  rw [sb_skip co wd ch k z (by omega) (by omega)]
  obtain ⟨r, hr⟩ : ∃ r, len - k = r + 1 := ⟨len - k - 1, by omega⟩
  rw [hr, sbF, if_neg (by omega), if_pos (by omega)]
  congr 1
  omega
theorem sb_neg (co : IF) (wd ch : Nat → Nat) : ∀ (r i : Nat) (z : Int), z < 0 → sbF co wd ch r i z = 0
  | 0, _, _, _ => rfl
  | r + 1, i, z, h => by rw [sbF, if_pos h]
theorem sb_gap (co : IF) (wd ch : Nat → Nat) {len k : Nat} (hk : k < len) {z : Int} (e : z = (ofF wd ch k : Int) + wF wd (ch k)) : sbF co wd ch len 0 z = 0 := by
  rw [sb_skip co wd ch k z (by omega) (by omega)]
  obtain ⟨r, hr⟩ : ∃ r, len - k = r + 1 := ⟨len - k - 1, by omega⟩
  rw [hr, sbF, if_neg (by omega), if_neg (by omega)]
  exact sb_neg co wd ch _ _ _ (by omega)
theorem sb_end (co : IF) (wd ch : Nat → Nat) {len : Nat} {z : Int} (e : (ofF wd ch len : Int) ≤ z) : sbF co wd ch len 0 z = 0 := by
  rw [sb_skip co wd ch len z (Nat.le_refl _) e, Nat.sub_self]
  rfl
abbrev chF (S : SV) (m : Nat) : Nat → Nat := fun k => S.2.2.1 (m * 12 + k)
theorem pF_out {W : Nat} {S : SV} {m : Nat} {s : Int} {c : Nat} (h : W ≤ c) : pF W S m s c = 0 := by
  rw [pF, if_neg (by omega)]
theorem pF_lo {W : Nat} {S : SV} {m : Nat} {s : Int} {c : Nat} (h : (c : Int) < stF W (TF S m) s) : pF W S m s c = 0 := by
  rw [pF]
  split
  · exact sb_neg _ _ _ _ _ _ (by omega)
  · rfl
theorem pF_char {W : Nat} {S : SV} {m : Nat} {s : Int} {c k i : Nat} (hc : c < W) (hk : k < S.2.2.2.1 m) (hi : i < wF S.2.1 (chF S m k)) (e : (c : Int) = stF W (TF S m) s + (ofF S.2.1 (chF S m) k : Int) + i) : pF W S m s c = cF S.1 (chF S m k) i := by
  rw [pF, if_pos hc]
  exact sb_char S.1 S.2.1 (chF S m) hk hi (by omega)
theorem pF_gap {W : Nat} {S : SV} {m : Nat} {s : Int} {c k : Nat} (hk : k < S.2.2.2.1 m) (e : (c : Int) = stF W (TF S m) s + (ofF S.2.1 (chF S m) k : Int) + wF S.2.1 (chF S m k)) : pF W S m s c = 0 := by
  rw [pF]
  split
  · exact sb_gap S.1 S.2.1 (chF S m) hk (by omega)
  · rfl
theorem pF_hi {W : Nat} {S : SV} {m : Nat} {s : Int} {c : Nat} (e : stF W (TF S m) s + (ofF S.2.1 (chF S m) (S.2.2.2.1 m) : Int) ≤ c) : pF W S m s c = 0 := by
  rw [pF]
  split
  · exact sb_end S.1 S.2.1 (chF S m) (by omega)
  · rfl
/-- the picture up to a place -/
def UP (W : Nat) (S : SV) (m : Nat) (s : Int) (f : IF) (a : Int) : Prop := ∀ c, c < 40 → f c = if (c : Int) < a then pF W S m s c else 0
theorem UP.skip {W : Nat} {S : SV} {m : Nat} {s : Int} {f : IF} {a : Int} (H : UP W S m s f a) (h : ∀ c : Nat, c < 40 → (c : Int) = a → pF W S m s c = 0) : UP W S m s f (a + 1) := fun c hc => by
  rw [H c hc]
  by_cases e : (c : Int) = a
  · rw [if_neg (by omega), if_pos (by omega), h c hc e]
  · by_cases q : (c : Int) < a
    · rw [if_pos q, if_pos (by omega)]
    · rw [if_neg q, if_neg (by omega)]
theorem UP.put {W : Nat} {S : SV} {m : Nat} {s : Int} {f : IF} {a : Nat} (H : UP W S m s f a) : UP W S m s (upd f a (pF W S m s a)) ((a : Int) + 1) := fun c hc => by
  by_cases e : c = a
  · subst e
    rw [pk_us, if_pos (by omega)]
  · rw [pk_un e, H c hc]
    by_cases q : (c : Int) < a
    · rw [if_pos q, if_pos (by omega)]
    · rw [if_neg q, if_neg (by omega)]
theorem UP.cast {W : Nat} {S : SV} {m : Nat} {s : Int} {f : IF} {a b : Int} (H : UP W S m s f a) (e : a = b) : UP W S m s f b := by
  rw [← e]
  exact H
section LAYS
variable {h : HP} {y : Nat} {s : IF} {ps ty sp om : Nat} {v : PV} {W : Nat}
theorem HN.off (H : HN h y s ps ty sp om) {a : Nat} (c : AC) (ha : a < y ∨ y + 2 ≤ a) : HN (hset h a c) y s ps ty sp om :=
  ⟨(hset_ne _ _ (by omega)).trans H.1, (hset_ne _ _ (by omega)).trans H.2⟩
theorem tX10_lays (l : Launch) (E : EV) (n : Nat) (H : HN h y s ps ty sp om) (R : RS s v W) (hS : WS v.2.2.1) {m : Nat} (hm : m < v.2.2.1.2.2.2.2) {z : Int} (hz1 : -2 ≤ z) (hz2 : z ≤ 2) {t : Nat} {f0 : IF} (ht : h t = some (cI 40 f0)) (hty : t < y ∨ y + 2 ≤ t) : MX10_lays l E n h [.ref y, .int (nI m), .int (iI z), .ref t] (fun r h' => r = none ∧ h' = hset h t (cI 40 (pF W v.2.2.1 m z))) := by
  have e := H
  obtain ⟨e0, e1⟩ := H
  obtain ⟨⟨r1, r0, hW6, hW⟩, -, -, -, -, -, r7, r8, -⟩ := id R
  obtain ⟨q1, q2, q3⟩ := hS.2.2 m hm
  obtain ⟨r81, r82⟩ := r8 m hm
  have hm8 : m < 8 := Nat.lt_of_lt_of_le hm hS.1
  have hT := hS.T71 hm
  have hst : -2 ≤ stF W (TF v.2.2.1 m) z ∧ stF W (TF v.2.2.1 m) z ≤ 22 := by
    unfold stF
    split <;> omega
  have hof : ∀ k, k ≤ v.2.2.1.2.2.2.1 m → ofF v.2.2.1.2.1 (chF v.2.2.1 m) k ≤ k * 6 := fun k hk => sumN_le (fun i hi => by have q : wF v.2.2.1.2.1 (chF v.2.2.1 m i) ≤ 5 := hS.wF5 (q3 i (by omega)); omega)
  refine AM.intro mf_X10_lays (by simp [Value.category]) (Nat.le_of_ble_eq_true rfl) (fun X hl hE hnm hX => ?_)
  subst hl
  subst hE
  show AW X _ _ 0 0 0 [some (.ref y), some (.int (nI m)), some (.int (iI z)), some (.ref t), none, none, none, none, none] []
  have inner : ∀ (g k i : Nat) (f : IF) (_ : ∀ (f : IF) (x x2 : Option Value), UP W v.2.2.1 m z f (stF W (TF v.2.2.1 m) z + (ofF v.2.2.1.2.1 (chF v.2.2.1 m) (k + 1) : Int)) → AW X n (hset h t (cI 40 f)) 0 0 61 [some (.ref y), some (.int (nI m)), some (.int (iI z)), some (.ref t), some (.int (nI (TF v.2.2.1 m))), some (.int (iI (stF W (TF v.2.2.1 m) z + (ofF v.2.2.1.2.1 (chF v.2.2.1 m) (k + 1) : Int)))), some (.int (nI (k + 1))), x, x2] []), k < v.2.2.1.2.2.2.1 m → i ≤ wF v.2.2.1.2.1 (chF v.2.2.1 m k) → wF v.2.2.1.2.1 (chF v.2.2.1 m k) - i < g → UP W v.2.2.1 m z f (stF W (TF v.2.2.1 m) z + (ofF v.2.2.1.2.1 (chF v.2.2.1 m) k : Int) + i) → AW X n (hset h t (cI 40 f)) 0 0 83 [some (.ref y), some (.int (nI m)), some (.int (iI z)), some (.ref t), some (.int (nI (TF v.2.2.1 m))), some (.int (iI (stF W (TF v.2.2.1 m) z + (ofF v.2.2.1.2.1 (chF v.2.2.1 m) k : Int) + i))), some (.int (nI k)), some (.int (nI (chF v.2.2.1 m k))), some (.int (nI i))] [] := by
    intro g
    induction g with
    | zero => intro k i f kk h1 h2 h3; omega
    | succ g ih =>
      intro k i f kk h1 h2 h3 h4
      have e := e.off (a := t) (cI 40 f) hty
      have et := hset_eq h t (cI 40 f)
      obtain ⟨e0, e1⟩ := id e
      have hch : chF v.2.2.1 m k ≤ 26 := q3 k h1
      have hw5 := hS.wF5 hch
      have ho := hof k (by omega)
      have r1' : s 0 = iI W := r1.trans (iI_n W)
      refine aw_iload hX dX10_lays_83 rfl ?_
      refine aw_aload_n hX dX10_lays_85 rfl ?_
      refine aw_iload hX dX10_lays_86 rfl ?_
      refine aw_callVp hX RX10 rfl (tX10_wideOf _ _ _ e R hch) rfl mf_X10_wideOf mi_X10_wideOf ms_X10_wideOf kl_X10_62 (by assumption) rfl rfl (by decide) (Nat.le_of_ble_eq_true rfl) dX10_lays_88 (by decide) ?_
      refine aw_icmp_ge hX 146 dX10_lays_91 (by decide) (fun c_91 => ?_) (fun c_91 => ?_)
      · have n_91 : wF v.2.2.1.2.1 (chF v.2.2.1 m k) ≤ i := (nI_leI (a := wF v.2.2.1.2.1 (chF v.2.2.1 m k)) (b := i) (by omega) (by omega)).mp c_91
        have hi : i = wF v.2.2.1.2.1 (chF v.2.2.1 m k) := by omega
        have hq : stF W (TF v.2.2.1 m) z + (ofF v.2.2.1.2.1 (chF v.2.2.1 m) k : Int) + i + 1 = stF W (TF v.2.2.1 m) z + (ofF v.2.2.1.2.1 (chF v.2.2.1 m) (k + 1) : Int) := by rw [ofF_s]; omega
        refine aw_iinc hX (iI (stF W (TF v.2.2.1 m) z + (ofF v.2.2.1.2.1 (chF v.2.2.1 m) (k + 1) : Int))) dX10_lays_146 rfl ((iI_add _ 1).trans (congrArg iI hq)) ?_
        refine aw_iinc hX (nI (k + 1)) dX10_lays_149 rfl (nI_1 k) ?_
        refine aw_goto hX 61 dX10_lays_152 (by decide) ?_
        exact kk f _ _ (hq ▸ h4.skip (fun c hc ec => pF_gap h1 (by omega)))
      · have n_91 : ¬ wF v.2.2.1.2.1 (chF v.2.2.1 m k) ≤ i := fun q => c_91 ((nI_leI (a := wF v.2.2.1.2.1 (chF v.2.2.1 m k)) (b := i) (by omega) (by omega)).mpr q)
        refine aw_aload_n hX dX10_lays_94 rfl ?_
        refine aw_iload hX dX10_lays_95 rfl ?_
        refine aw_callVp hX RX10 rfl (tX10_isColumn _ _ _ e _) rfl mf_X10_isColumn mi_X10_isColumn ms_X10_isColumn kl_X10_68 (by assumption) rfl rfl (by decide) (Nat.le_of_ble_eq_true rfl) dX10_lays_97 (by decide) ?_
        refine aw_if_eq hX 137 dX10_lays_100 (by decide) (fun c_100 => ?_) (fun c_100 => ?_)
        · refine aw_iinc hX (iI (stF W (TF v.2.2.1 m) z + (ofF v.2.2.1.2.1 (chF v.2.2.1 m) k : Int) + ((i + 1 : Nat) : Int))) dX10_lays_137 rfl ((iI_add _ 1).trans (congrArg iI (by omega))) ?_
          refine aw_iinc hX (nI (i + 1)) dX10_lays_140 rfl (nI_1 i) ?_
          refine aw_goto hX 83 dX10_lays_143 (by decide) ?_
          exact ih k (i + 1) f kk h1 (by omega) (by omega) ((h4.skip (fun c hc ec => by by_cases q : c < W; exact absurd (And.intro ((iI_le (a := 0) (by omega) (by omega) (by omega) (by omega)).mpr (by omega)) (by rw [r1', iI_lt (by omega) (by omega) (by omega) (by omega)]; omega)) (bI_eq0.mp c_100); exact pF_out (by omega))).cast (by omega))
        · obtain ⟨hc1, hc2⟩ := Decidable.not_not.mp (fun q => c_100 (bI_eq0.mpr q))
          rw [r1', iI_lt (by omega) (by omega) (by omega) (by omega)] at hc2
          have hc1 := (iI_le (a := 0) (by omega) (by omega) (by omega) (by omega)).mp hc1
          obtain ⟨a, ha⟩ : ∃ a : Nat, stF W (TF v.2.2.1 m) z + (ofF v.2.2.1.2.1 (chF v.2.2.1 m) k : Int) + i = a := ⟨_, (Int.toNat_of_nonneg hc1).symm⟩
          have hpc : pF W v.2.2.1 m z a = cF v.2.2.1.1 (chF v.2.2.1 m k) i := pF_char (by omega) h1 (by omega) ha.symm
          refine aw_aload_n hX dX10_lays_103 rfl ?_
          refine aw_iload hX dX10_lays_104 rfl ?_
          refine aw_iload hX dX10_lays_106 rfl ?_
          refine aw_bipush hX (26) dX10_lays_108 (by decide) ?_
          refine aw_icmp_ne hX 117 dX10_lays_110 (by decide) (fun c_110 => ?_) (fun c_110 => ?_)
          · have n_110 : ¬ chF v.2.2.1 m k = 26 := fun q => c_110 ((nI_eq (a := chF v.2.2.1 m k) (b := 26) (by omega) (by omega)).mpr q)
            refine aw_aload_n hX dX10_lays_117 rfl ?_
            refine gt_X10_7 hX dX10_lays_118 (by assumption) (by exact rfl) ?_
            refine aw_sipush hX (449) dX10_lays_121 (by decide) ?_
            refine aw_bipush hX (6) dX10_lays_124 (by decide) ?_
            refine aw_iload hX dX10_lays_126 rfl ?_
            refine aw_imul hX dX10_lays_128 ?_
            refine aw_iadd hX dX10_lays_129 ?_
            rw [ix_l]
            refine aw_iconst hX (1) dX10_lays_130 (by decide) ?_
            refine aw_iadd hX dX10_lays_131 ?_
            rw [nI_1]
            refine aw_iload hX dX10_lays_132 rfl ?_
            refine aw_iadd hX dX10_lays_134 ?_
            refine aw_ialdN hX (449 + 6 * chF v.2.2.1 m k + 1 + i) (by assumption) (nI_add _ _) (by omega) (by first | decide | assumption) dX10_lays_135 ?_
            refine AW.top (y := pF W v.2.2.1 m z a) (by rw [hpc, cF, if_neg n_110]; exact (r7 _ (by omega)).2 i (by have q := n_91; rw [wF, if_neg n_110] at q; omega)) ?_
            refine aw_iastN hX (a) (by assumption) ((congrArg iI ha).trans (iI_n a).symm) (by omega) (by first | decide | assumption) dX10_lays_136 ?_
            rw [hset_hset]
            refine aw_iinc hX (iI (stF W (TF v.2.2.1 m) z + (ofF v.2.2.1.2.1 (chF v.2.2.1 m) k : Int) + ((i + 1 : Nat) : Int))) dX10_lays_137 rfl ((iI_add _ 1).trans (congrArg iI (by omega))) ?_
            refine aw_iinc hX (nI (i + 1)) dX10_lays_140 rfl (nI_1 i) ?_
            refine aw_goto hX 83 dX10_lays_143 (by decide) ?_
            exact ih k (i + 1) _ kk h1 (by omega) (by omega) (((h4.cast ha).put).cast (by omega))
          · have n_110 : chF v.2.2.1 m k = 26 := (nI_eq (a := chF v.2.2.1 m k) (b := 26) (by omega) (by omega)).mp c_110
            refine aw_iconst hX (0) dX10_lays_113 (by decide) ?_
            refine AW.top (y := pF W v.2.2.1 m z a) (by rw [hpc, cF, if_pos n_110]) ?_
            refine aw_goto hX 136 dX10_lays_114 (by decide) ?_
            refine aw_iastN hX (a) (by assumption) ((congrArg iI ha).trans (iI_n a).symm) (by omega) (by first | decide | assumption) dX10_lays_136 ?_
            rw [hset_hset]
            refine aw_iinc hX (iI (stF W (TF v.2.2.1 m) z + (ofF v.2.2.1.2.1 (chF v.2.2.1 m) k : Int) + ((i + 1 : Nat) : Int))) dX10_lays_137 rfl ((iI_add _ 1).trans (congrArg iI (by omega))) ?_
            refine aw_iinc hX (nI (i + 1)) dX10_lays_140 rfl (nI_1 i) ?_
            refine aw_goto hX 83 dX10_lays_143 (by decide) ?_
            exact ih k (i + 1) _ kk h1 (by omega) (by omega) (((h4.cast ha).put).cast (by omega))
  have outer : ∀ (g k : Nat) (f : IF) (x x2 : Option Value), k ≤ v.2.2.1.2.2.2.1 m → v.2.2.1.2.2.2.1 m - k < g → UP W v.2.2.1 m z f (stF W (TF v.2.2.1 m) z + (ofF v.2.2.1.2.1 (chF v.2.2.1 m) k : Int)) → AW X n (hset h t (cI 40 f)) 0 0 61 [some (.ref y), some (.int (nI m)), some (.int (iI z)), some (.ref t), some (.int (nI (TF v.2.2.1 m))), some (.int (iI (stF W (TF v.2.2.1 m) z + (ofF v.2.2.1.2.1 (chF v.2.2.1 m) k : Int)))), some (.int (nI k)), x, x2] [] := by
    intro g
    induction g with
    | zero => intro k f x x2 h1 h2; omega
    | succ g ih =>
      intro k f x x2 h1 h2 h4
      have e := e.off (a := t) (cI 40 f) hty
      have et := hset_eq h t (cI 40 f)
      obtain ⟨e0, e1⟩ := id e
      refine aw_iload hX dX10_lays_61 rfl ?_
      refine aw_aload_n hX dX10_lays_63 rfl ?_
      refine aw_iload_n hX dX10_lays_64 rfl ?_
      refine aw_callVp hX RX10 rfl (tX10_lengthOf _ _ _ e hm8) rfl mf_X10_lengthOf mi_X10_lengthOf ms_X10_lengthOf kl_X10_54 (by assumption) rfl rfl (by decide) (Nat.le_of_ble_eq_true rfl) dX10_lays_65 (by decide) ?_
      rw [r81]
      refine aw_icmp_ge hX 155 dX10_lays_68 (by decide) (fun c_68 => ?_) (fun c_68 => ?_)
      · have n_68 : v.2.2.1.2.2.2.1 m ≤ k := (nI_leI (a := v.2.2.1.2.2.2.1 m) (b := k) (by omega) (by omega)).mp c_68
        have hk : k = v.2.2.1.2.2.2.1 m := by omega
        refine AW.ext (pF W v.2.2.1 m z) et (fun c hc => by rw [h4 c hc]; split; rfl; exact (pF_hi (by rw [← hk]; omega)).symm) ?_
        rw [hset_hset]
        exact aw_vret hX rfl rfl rfl rfl dX10_lays_155 ⟨rfl, rfl⟩
      · have n_68 : ¬ v.2.2.1.2.2.2.1 m ≤ k := fun q => c_68 ((nI_leI (a := v.2.2.1.2.2.2.1 m) (b := k) (by omega) (by omega)).mpr q)
        refine aw_aload_n hX dX10_lays_71 rfl ?_
        refine aw_iload_n hX dX10_lays_72 rfl ?_
        refine aw_iload hX dX10_lays_73 rfl ?_
        refine aw_callVp hX RX10 rfl (tX10_characterOf _ _ _ e hm8 (k := k) (by omega)) rfl mf_X10_characterOf mi_X10_characterOf ms_X10_characterOf kl_X10_58 (by assumption) rfl rfl (by decide) (Nat.le_of_ble_eq_true rfl) dX10_lays_75 (by decide) ?_
        rw [r82 k (by omega)]
        refine aw_istore hX dX10_lays_78 (Nat.le_of_ble_eq_true rfl) ?_
        refine aw_iconst hX (0) dX10_lays_80 (by decide) ?_
        refine aw_istore hX dX10_lays_81 (Nat.le_of_ble_eq_true rfl) ?_
        have hi := inner (wF v.2.2.1.2.1 (chF v.2.2.1 m k) + 1) k 0 f (fun f x x2 hf => ih (k + 1) f x x2 (by omega) (by omega) hf) (by omega) (by omega) (by omega) (h4.cast (by omega))
        rw [show stF W (TF v.2.2.1 m) z + (ofF v.2.2.1.2.1 (chF v.2.2.1 m) k : Int) + ((0 : Nat) : Int) = stF W (TF v.2.2.1 m) z + (ofF v.2.2.1.2.1 (chF v.2.2.1 m) k : Int) by omega] at hi
        exact hi
  have loop0 : ∀ (g j : Nat) (f : IF), j ≤ 40 → 40 - j < g → (∀ c, c < j → f c = 0) → AW X n (hset h t (cI 40 f)) 0 0 3 [some (.ref y), some (.int (nI m)), some (.int (iI z)), some (.ref t), some (.int (nI j)), none, none, none, none] [] := by
    intro g
    induction g with
    | zero => intro j f h1 h2; omega
    | succ g ih =>
      intro j f h1 h2 h3
      have e := e.off (a := t) (cI 40 f) hty
      have et := hset_eq h t (cI 40 f)
      obtain ⟨e0, e1⟩ := id e
      refine aw_iload hX dX10_lays_3 rfl ?_
      refine aw_bipush hX (40) dX10_lays_5 (by decide) ?_
      refine aw_icmp_ge hX 21 dX10_lays_7 (by decide) (fun c_7 => ?_) (fun c_7 => ?_)
      · have n_7 : 40 ≤ j := (nI_leI (a := 40) (b := j) (by omega) (by omega)).mp c_7
        refine aw_aload_n hX dX10_lays_21 rfl ?_
        refine aw_iload_n hX dX10_lays_22 rfl ?_
        refine aw_callVp hX RX10 rfl (tX10_stripOf _ _ _ e R hS hm) rfl mf_X10_stripOf mi_X10_stripOf ms_X10_stripOf kl_X10_65 (by assumption) rfl rfl (by decide) (Nat.le_of_ble_eq_true rfl) dX10_lays_23 (by decide) ?_
        refine aw_istore hX dX10_lays_26 (Nat.le_of_ble_eq_true rfl) ?_
        refine aw_iload hX dX10_lays_28 rfl ?_
        refine aw_aload_n hX dX10_lays_30 rfl ?_
        refine gt_X10_7 hX dX10_lays_31 (by assumption) (by exact rfl) ?_
        refine aw_iconst hX (0) dX10_lays_34 (by decide) ?_
        refine aw_ialdN hX (0) (by assumption) rfl (by decide) (by first | decide | assumption) dX10_lays_35 ?_
        rw [r1]
        refine aw_icmp_gt hX 55 dX10_lays_36 (by decide) (fun c_36 => ?_) (fun c_36 => ?_)
        · have n_36 : W < TF v.2.2.1 m := (nI_ltI (a := W) (b := TF v.2.2.1 m) (by omega) (by omega)).mp c_36
          refine aw_iload_n hX dX10_lays_55 rfl ?_
          refine AW.top (y := iI (stF W (TF v.2.2.1 m) z)) (by rw [stF, if_neg (by omega)]) ?_
          refine aw_istore hX dX10_lays_56 (Nat.le_of_ble_eq_true rfl) ?_
          refine aw_iconst hX (0) dX10_lays_58 (by decide) ?_
          refine aw_istore hX dX10_lays_59 (Nat.le_of_ble_eq_true rfl) ?_
          have hk := outer (v.2.2.1.2.2.2.1 m + 1) 0 f none none (by omega) (by omega) (fun c hc => by rw [h3 c (by omega)]; split; exact (pF_lo (by rename_i q; rw [show (ofF v.2.2.1.2.1 (chF v.2.2.1 m) 0 : Int) = 0 from rfl] at q; omega)).symm; rfl)
          rw [show stF W (TF v.2.2.1 m) z + (ofF v.2.2.1.2.1 (chF v.2.2.1 m) 0 : Int) = stF W (TF v.2.2.1 m) z from Int.add_zero _] at hk
          exact hk
        · have n_36 : ¬ W < TF v.2.2.1 m := fun q => c_36 ((nI_ltI (a := W) (b := TF v.2.2.1 m) (by omega) (by omega)).mpr q)
          refine aw_aload_n hX dX10_lays_39 rfl ?_
          refine gt_X10_7 hX dX10_lays_40 (by assumption) (by exact rfl) ?_
          refine aw_iconst hX (0) dX10_lays_43 (by decide) ?_
          refine aw_ialdN hX (0) (by assumption) rfl (by decide) (by first | decide | assumption) dX10_lays_44 ?_
          rw [r1]
          refine aw_iload hX dX10_lays_45 rfl ?_
          refine aw_isub hX dX10_lays_47 ?_
          rw [show nI W - nI (TF v.2.2.1 m) = nI (W - TF v.2.2.1 m) from pk_sub (by omega)]
          refine aw_iconst hX (2) dX10_lays_48 (by decide) ?_
          refine aw_idiv hX dX10_lays_49 (by decide) ?_
          rw [show nI (W - TF v.2.2.1 m) / 2 = nI ((W - TF v.2.2.1 m) / 2) from pk_div (d := 2) (by omega) (by decide) (by decide)]
          refine aw_iload_n hX dX10_lays_50 rfl ?_
          refine aw_iadd hX dX10_lays_51 ?_
          refine AW.top (y := iI (stF W (TF v.2.2.1 m) z)) (by rw [iI_n ((W - TF v.2.2.1 m) / 2), iI_add, stF, if_pos (by omega)]) ?_
          refine aw_goto hX 56 dX10_lays_52 (by decide) ?_
          refine aw_istore hX dX10_lays_56 (Nat.le_of_ble_eq_true rfl) ?_
          refine aw_iconst hX (0) dX10_lays_58 (by decide) ?_
          refine aw_istore hX dX10_lays_59 (Nat.le_of_ble_eq_true rfl) ?_
          have hk := outer (v.2.2.1.2.2.2.1 m + 1) 0 f none none (by omega) (by omega) (fun c hc => by rw [h3 c (by omega)]; split; exact (pF_lo (by rename_i q; rw [show (ofF v.2.2.1.2.1 (chF v.2.2.1 m) 0 : Int) = 0 from rfl] at q; omega)).symm; rfl)
          rw [show stF W (TF v.2.2.1 m) z + (ofF v.2.2.1.2.1 (chF v.2.2.1 m) 0 : Int) = stF W (TF v.2.2.1 m) z from Int.add_zero _] at hk
          exact hk
      · have n_7 : ¬ 40 ≤ j := fun q => c_7 ((nI_leI (a := 40) (b := j) (by omega) (by omega)).mpr q)
        refine aw_aload_n hX dX10_lays_10 rfl ?_
        refine aw_iload hX dX10_lays_11 rfl ?_
        refine aw_iconst hX (0) dX10_lays_13 (by decide) ?_
        refine aw_iastN hX (j) (by assumption) rfl (by omega) (by first | decide | assumption) dX10_lays_14 ?_
        rw [hset_hset]
        refine aw_iinc hX (nI (j + 1)) dX10_lays_15 rfl (nI_1 j) ?_
        refine aw_goto hX 3 dX10_lays_18 (by decide) ?_
        exact ih (j + 1) (upd f j 0) (by omega) (by omega) (upd_lo2 (f := fun _ => 0) h3)
  refine aw_iconst hX (0) dX10_lays_0 (by decide) ?_
  refine aw_istore hX dX10_lays_1 (Nat.le_of_ble_eq_true rfl) ?_
  rw [← hset_self ht]
  exact loop0 41 0 f0 (by decide) (by decide) (fun i hi => absurd hi (by omega))
end LAYS
