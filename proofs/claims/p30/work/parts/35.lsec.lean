/-! the law's second -/
section HLS
variable {h : HP} {g b lt m : IF} {f : Nat → Int64}
theorem HL.ug (H : HL h g b f lt m) (g' : IF) : HL (hset h 189 (cI 28 g')) g' b f lt m :=
  ⟨hset_eq _ _ _, (hset_ne _ _ (by omega)).trans H.2.1, (hset_ne _ _ (by omega)).trans H.2.2.1, (hset_ne _ _ (by omega)).trans H.2.2.2.1, (hset_ne _ _ (by omega)).trans H.2.2.2.2⟩
theorem HL.ub (H : HL h g b f lt m) (b' : IF) : HL (hset h 190 (cI 64 b')) g b' f lt m :=
  ⟨(hset_ne _ _ (by omega)).trans H.1, hset_eq _ _ _, (hset_ne _ _ (by omega)).trans H.2.2.1, (hset_ne _ _ (by omega)).trans H.2.2.2.1, (hset_ne _ _ (by omega)).trans H.2.2.2.2⟩
theorem HL.uf (H : HL h g b f lt m) (f' : Nat → Int64) : HL (hset h 191 (cL 16 f')) g b f' lt m :=
  ⟨(hset_ne _ _ (by omega)).trans H.1, (hset_ne _ _ (by omega)).trans H.2.1, hset_eq _ _ _, (hset_ne _ _ (by omega)).trans H.2.2.2.1, (hset_ne _ _ (by omega)).trans H.2.2.2.2⟩
theorem HL.off (H : HL h g b f lt m) {a : Nat} (c : AC) (ha : a < 189 ∨ 194 ≤ a) : HL (hset h a c) g b f lt m :=
  ⟨(hset_ne _ _ (by omega)).trans H.1, (hset_ne _ _ (by omega)).trans H.2.1, (hset_ne _ _ (by omega)).trans H.2.2.1, (hset_ne _ _ (by omega)).trans H.2.2.2.1, (hset_ne _ _ (by omega)).trans H.2.2.2.2⟩
theorem HL.sm {h' : HP} {lo hi : Nat} (H : HL h g b f lt m) (s : Sm lo hi h h') (hq : hi ≤ 189 ∨ 194 ≤ lo) : HL h' g b f lt m :=
  ⟨(s.at (by omega)).trans H.1, (s.at (by omega)).trans H.2.1, (s.at (by omega)).trans H.2.2.1, (s.at (by omega)).trans H.2.2.2.1, (s.at (by omega)).trans H.2.2.2.2⟩
end HLS
theorem lgc {a c : Nat} (ha : a < 2 ^ 31) (hc : c < 2 ^ 31) : lg_cmp (lN a) (nI c).toInt64 < 0 ↔ a < c := by
  rw [nI_l hc]
  constructor
  · intro q
    refine Nat.not_le.mp (fun z => ?_)
    exact Int32.not_lt.mpr ((lg_cmp_ge (lN a) (lN c)).mpr ((pk_lLE (by omega) (by omega)).mpr z)) q
  · intro q
    refine Int32.not_le.mp (fun z => ?_)
    have := (pk_lLE (by omega) (by omega)).mp ((lg_cmp_ge (lN a) (lN c)).mp z)
    omega
theorem fcF_u0 (due : Int32) (j : Nat) : ∀ (r i : Nat) (v : PV), fcF due j r i v 0 = (v, 0)
  | 0, _, _ => rfl
  | r + 1, i, v => by rw [fcF, if_pos rfl]
section LSEC
variable {h : HP} {g b lt m : IF} {f : Nat → Int64} {v : PV} {W P o M : Nat}
theorem LD.due (H : LD g b f v W P o M) {c : Nat} (hc : c < W) : (b c ^^^ b (16 + c)) &&& (b (48 + c) ^^^ (-1)) = dueP v c := by
  obtain ⟨⟨hV, hW, hZ⟩, -, hb, -⟩ := H
  obtain ⟨b1, b2, b3, b4⟩ := hb c hc
  rw [b1, b2, b4, i_xor_comm (v.1.2.1 c), dueP, if_pos (by rw [hV.1]; exact (nI_ltI (by omega) (by omega)).mpr hc)]
theorem tL_goes (l : Launch) (E : EV) (n : Nat) (hL : HL h g b f lt m) (H : LD g b f v W P o M) {c u : Nat} (hc : c < W) (hu : 1 ≤ u) (hu2 : u ≤ 50) : ML_goes l E n h [.ref 189, .ref 190, .ref 191, .int (nI c), .int (nI u)] (fun r h' => r = some (.int (nI (fcF (dueP v c) c 7 0 v (u - 1)).2)) ∧ ∃ g' b' f', HL h' g' b' f' lt m ∧ LD g' b' f' (fcF (dueP v c) c 7 0 v (u - 1)).1 W P o M ∧ Sm 189 192 h h') := by
  have hd7 : B7 (dueP v c) := BO.due H.1.1.2.2.2.2.2 (c := c) (by have := H.1.2.1; omega)
  have hW := H.1.2.1
  have hdue := H.due hc
  obtain ⟨e0, e1, e2, e3, e4⟩ := id hL
  refine AM.intro mf_L_goes (by simp [Value.category]) (Nat.le_of_ble_eq_true rfl) (fun X hl hE hnm hX => ?_)
  subst hl
  subst hE
  show AW X _ _ 0 0 0 [some (.ref 189), some (.ref 190), some (.ref 191), some (.int (nI c)), some (.int (nI u)), none, none, none] []
  have loop : ∀ (r i u' : Nat) (vv : PV) (hh : HP) (g b : IF) (f : Nat → Int64), i + r = 7 → u' ≤ 50 → HL hh g b f lt m → LD g b f vv W P o M → fcF (dueP v c) c 7 0 v (u - 1) = fcF (dueP v c) c r i vv u' → Sm 189 192 h hh → AW X n hh 0 0 30 [some (.ref 189), some (.ref 190), some (.ref 191), some (.int (nI c)), some (.int (nI u)), some (.int (nI u')), some (.int (dueP v c)), some (.int (nI i))] [] := by
    intro r
    induction r with
    | zero =>
      intro i u' vv hh g b f h1 h2 e R hq sm
      replace hq := hq.trans (show fcF (dueP v c) c 0 i vv u' = (vv, u') from rfl)
      refine aw_iload hX dL_goes_30 rfl ?_
      refine aw_bipush hX (7) dL_goes_32 (by decide) ?_
      refine aw_icmp_ge hX 168 dL_goes_34 (by decide) (fun c_34 => ?_) (fun c_34 => ?_)
      · have n_34 : 7 ≤ i := (nI_leI (a := 7) (b := i) (by omega) (by omega)).mp c_34
        refine aw_iload hX dL_goes_168 rfl ?_
        exact aw_iret hX rfl rfl rfl rfl dL_goes_170 (by rw [hq]; exact ⟨rfl, g, b, f, e, R, sm⟩)
      · have n_34 : ¬ 7 ≤ i := fun q_ => c_34 ((nI_leI (a := 7) (b := i) (by omega) (by omega)).mpr q_)
        exact absurd n_34 (by omega)
    | succ r ih =>
      intro i u' vv hh g b f h1 h2 e R hq sm
      have hi : i < 7 := by omega
      obtain ⟨e0, e1, e2, e3, e4⟩ := id e
      have next : ∀ (u2 : Nat) (vv : PV) (hh : HP) (g b : IF) (f : Nat → Int64), u2 ≤ 50 → HL hh g b f lt m → LD g b f vv W P o M → fcF (dueP v c) c 7 0 v (u - 1) = fcF (dueP v c) c r (i + 1) vv u2 → Sm 189 192 h hh → AW X n hh 0 0 162 [some (.ref 189), some (.ref 190), some (.ref 191), some (.int (nI c)), some (.int (nI u)), some (.int (nI u2)), some (.int (dueP v c)), some (.int (nI i))] [] := by
        intro u2 vv hh g b f h2 e R hq sm
        refine aw_iinc hX (nI (i + 1)) dL_goes_162 rfl (nI_1 i) ?_
        refine aw_goto hX 30 dL_goes_165 (by decide) ?_
        exact ih (i + 1) u2 vv hh g b f (by omega) h2 e R hq sm
      replace hq := hq.trans (show fcF (dueP v c) c (r + 1) i vv u' = if u' = 0 then (vv, u') else if dueP v c &&& mk i = 0 then fcF (dueP v c) c r (i + 1) vv u' else fcF (dueP v c) c r (i + 1) (tryF vv c i) (u' - 1) from rfl)
      have hBO := R.1.1.2.2.2.2.2 c (by omega)
      obtain ⟨z1, z2, z3, z4⟩ := R.2.2.1 c hc
      have g3 : g 3 = nI M := R.2.1.1.2.2.2
      have hM := R.2.1.2.1.2.2
      obtain ⟨y, hfy, hy⟩ := R.2.2.2 c hc
      have hyl := YF.le hy
      have low : u' = 0 → fcF (dueP v c) c 7 0 v (u - 1) = fcF (dueP v c) c r (i + 1) vv u' := fun q => by rw [hq, if_pos q, q, fcF_u0]
      refine aw_iload hX dL_goes_30 rfl ?_
      refine aw_bipush hX (7) dL_goes_32 (by decide) ?_
      refine aw_icmp_ge hX 168 dL_goes_34 (by decide) (fun c_34 => ?_) (fun c_34 => ?_)
      · have n_34 : 7 ≤ i := (nI_leI (a := 7) (b := i) (by omega) (by omega)).mp c_34
        exact absurd n_34 (by omega)
      · have n_34 : ¬ 7 ≤ i := fun q_ => c_34 ((nI_leI (a := 7) (b := i) (by omega) (by omega)).mpr q_)
        refine aw_iload hX dL_goes_37 rfl ?_
        refine aw_iload hX dL_goes_39 rfl ?_
        refine aw_ishr hX dL_goes_41 ?_
        refine aw_iconst hX (1) dL_goes_42 (by decide) ?_
        refine aw_iand hX dL_goes_43 ?_
        rw [hd7.bit hi]
        refine aw_iconst hX (1) dL_goes_44 (by decide) ?_
        refine aw_icmp_ne hX 162 dL_goes_45 (by decide) (fun c_45 => ?_) (fun c_45 => ?_)
        · have hz0 : dueP v c &&& mk i = 0 := Decidable.not_not.mp (fun q => c_45 (bI_1.mpr q))
          refine next u' vv hh g b f h2 e R ?_ sm
          by_cases q : u' = 0
          · exact low q
          · rw [hq, if_neg q, if_pos hz0]
        · refine aw_iload hX dL_goes_48 rfl ?_
          refine aw_if_le hX 162 dL_goes_50 (by decide) (fun c_50 => ?_) (fun c_50 => ?_)
          · have n_50 : u' ≤ 0 := (nI_leI (a := u') (b := 0) (by omega) (by omega)).mp c_50
            exact next u' vv hh g b f h2 e R (low (by omega)) sm
          · have n_50 : ¬ u' ≤ 0 := fun q_ => c_50 ((nI_leI (a := u') (b := 0) (by omega) (by omega)).mpr q_)
            rw [if_neg (show ¬ u' = 0 by omega), if_neg (bI_1.mp c_45)] at hq
            refine aw_iinc hX (nI (u' - 1)) dL_goes_53 rfl (sb_m1 (by omega)) ?_
            refine aw_aload_n hX dL_goes_56 rfl ?_
            refine aw_bipush hX (32) dL_goes_57 (by decide) ?_
            refine aw_iload_n hX dL_goes_59 rfl ?_
            refine aw_iadd hX dL_goes_60 ?_
            refine aw_ialdN hX (32 + c) (by assumption) (ix32 c) (by omega) (by first | decide | assumption) dL_goes_61 ?_
            rw [z3]
            refine aw_iload hX dL_goes_62 rfl ?_
            refine aw_ishr hX dL_goes_64 ?_
            refine aw_iconst hX (1) dL_goes_65 (by decide) ?_
            refine aw_iand hX dL_goes_66 ?_
            rw [hBO.2.2.1.bit hi]
            refine aw_iconst hX (1) dL_goes_67 (by decide) ?_
            refine aw_icmp_ne hX 94 dL_goes_68 (by decide) (fun c_68 => ?_) (fun c_68 => ?_)
            · have hs : vv.1.2.2.2.1 c &&& mk i = 0 := Decidable.not_not.mp (fun q => c_68 (bI_1.mpr q))
              have hyi := (hy i hi).2.2 hs
              have hyl2 : ∀ j, j < 7 → updN y i (y i + 1) j ≤ 255 := fun j hj => by unfold updN; split; omega; exact hyl j hj
              refine aw_aload_n hX dL_goes_94 rfl ?_
              refine aw_iload_n hX dL_goes_95 rfl ?_
              refine aw_dup2 hX dL_goes_96 rfl rfl ?_
              refine aw_ialdN hX (c) (by assumption) rfl (by omega) (by first | decide | assumption) dL_goes_97 ?_
              refine aw_iconst hX (1) dL_goes_98 (by decide) ?_
              refine aw_iload hX dL_goes_99 rfl ?_
              refine aw_ishl hX dL_goes_101 ?_
              refine AW.top (y := mk i) rfl ?_
              refine aw_ixor hX dL_goes_102 ?_
              refine aw_iastN hX (c) (by assumption) rfl (by omega) (by first | decide | assumption) dL_goes_103 ?_
              have e := e.ub (upd b c (b c ^^^ mk i))
              have sm := sm.set (a := 190) (c := cI 64 (upd b c (b c ^^^ mk i))) (by omega) (by omega)
              generalize hset hh 190 (cI 64 (upd b c (b c ^^^ mk i))) = hk at e sm ⊢
              obtain ⟨e0, e1, e2, e3, e4⟩ := id e
              refine aw_aload_n hX dL_goes_104 rfl ?_
              refine aw_iload_n hX dL_goes_105 rfl ?_
              refine aw_dup2 hX dL_goes_106 rfl rfl ?_
              refine aw_laldN hX (c) (by assumption) rfl (by omega) (by first | decide | assumption) dL_goes_107 ?_
              rw [hfy]
              refine aw_lconst hX (1) dL_goes_108 (by decide) ?_
              refine aw_bipush hX (8) dL_goes_109 (by decide) ?_
              refine aw_iload hX dL_goes_111 rfl ?_
              refine aw_imul hX dL_goes_113 ?_
              refine aw_lshl hX dL_goes_114 ?_
              refine aw_ladd hX dL_goes_115 ?_
              rw [ff_add y hi]
              refine aw_lastN hX (c) (by assumption) rfl (by omega) (by first | decide | assumption) dL_goes_116 ?_
              have e := e.uf (vp_updL f c (lN (pkF (updN y i (y i + 1)))))
              have sm := sm.set (a := 191) (c := cL 16 (vp_updL f c (lN (pkF (updN y i (y i + 1)))))) (by omega) (by omega)
              generalize hset hk 191 (cL 16 (vp_updL f c (lN (pkF (updN y i (y i + 1)))))) = hk at e sm ⊢
              obtain ⟨e0, e1, e2, e3, e4⟩ := id e
              refine aw_aload_n hX dL_goes_117 rfl ?_
              refine aw_iconst hX (4) dL_goes_118 (by decide) ?_
              refine aw_dup2 hX dL_goes_119 rfl rfl ?_
              refine aw_ialdN hX (4) (by assumption) rfl (by decide) (by first | decide | assumption) dL_goes_120 ?_
              refine aw_iconst hX (1) dL_goes_121 (by decide) ?_
              refine aw_iadd hX dL_goes_122 ?_
              refine aw_iastN hX (4) (by assumption) rfl (by decide) (by first | decide | assumption) dL_goes_123 ?_
              have e := e.ug (upd g 4 (g 4 + 1))
              have sm := sm.set (a := 189) (c := cI 28 (upd g 4 (g 4 + 1))) (by omega) (by omega)
              generalize hset hk 189 (cI 28 (upd g 4 (g 4 + 1))) = hk at e sm ⊢
              obtain ⟨e0, e1, e2, e3, e4⟩ := id e
              refine aw_aload_n hX dL_goes_124 rfl ?_
              refine aw_bipush hX (32) dL_goes_125 (by decide) ?_
              refine aw_iload_n hX dL_goes_127 rfl ?_
              refine aw_iadd hX dL_goes_128 ?_
              refine aw_dup2 hX dL_goes_129 rfl rfl ?_
              refine aw_ialdN hX (32 + c) (by assumption) (ix32 c) (by omega) (by first | decide | assumption) dL_goes_130 ?_
              refine aw_aload_n hX dL_goes_131 rfl ?_
              refine aw_iload_n hX dL_goes_132 rfl ?_
              refine aw_laldN hX (c) (by assumption) rfl (by omega) (by first | decide | assumption) dL_goes_133 ?_
              rw [vpL_s]
              refine aw_bipush hX (8) dL_goes_134 (by decide) ?_
              refine aw_iload hX dL_goes_136 rfl ?_
              refine aw_imul hX dL_goes_138 ?_
              refine aw_lshr hX dL_goes_139 ?_
              refine aw_ldc2 hX kk_L_19 dL_goes_140 ?_
              refine aw_land hX dL_goes_143 ?_
              rw [ff_get hyl2 hi, updN_eq]
              refine aw_aload_n hX dL_goes_144 rfl ?_
              refine aw_iconst hX (3) dL_goes_145 (by decide) ?_
              refine aw_ialdN hX (3) (by assumption) rfl (by decide) (by first | decide | assumption) dL_goes_146 ?_
              rw [show upd g 4 (g 4 + 1) 3 = nI M from (pk_un (by omega)).trans g3]
              refine aw_i2l hX dL_goes_147 ?_
              refine aw_lcmp hX dL_goes_148 ?_
              refine aw_if_lt hX 159 dL_goes_149 (by decide) (fun c_149 => ?_) (fun c_149 => ?_)
              · have hz : (0 : Int32) = if y i + 1 < M then 0 else mk i := (if_pos ((lgc (by omega) (by omega)).mp c_149)).symm
                refine aw_iconst hX (0) dL_goes_159 (by decide) ?_
                refine aw_ior hX dL_goes_160 ?_
                refine aw_iastN hX (32 + c) (by assumption) (ix32 c) (by omega) (by first | decide | assumption) dL_goes_161 ?_
                exact next (u' - 1) (tryF vv c i) _ _ _ _ (by omega) (e.ub _) (R.tryA hc hi hs hy hz) hq (sm.set (by omega) (by omega))
              · have hz : mk i = if y i + 1 < M then 0 else mk i := (if_neg (fun q => c_149 ((lgc (by omega) (by omega)).mpr q))).symm
                refine aw_iconst hX (1) dL_goes_152 (by decide) ?_
                refine aw_iload hX dL_goes_153 rfl ?_
                refine aw_ishl hX dL_goes_155 ?_
                refine AW.top (y := mk i) rfl ?_
                refine aw_goto hX 160 dL_goes_156 (by decide) ?_
                refine aw_ior hX dL_goes_160 ?_
                refine aw_iastN hX (32 + c) (by assumption) (ix32 c) (by omega) (by first | decide | assumption) dL_goes_161 ?_
                exact next (u' - 1) (tryF vv c i) _ _ _ _ (by omega) (e.ub _) (R.tryA hc hi hs hy hz) hq (sm.set (by omega) (by omega))
            · have hs := bI_1.mp c_68
              have R' := R.tryC hc hi hs
              refine aw_aload_n hX dL_goes_71 rfl ?_
              refine aw_bipush hX (48) dL_goes_72 (by decide) ?_
              refine aw_iload_n hX dL_goes_74 rfl ?_
              refine aw_iadd hX dL_goes_75 ?_
              refine aw_dup2 hX dL_goes_76 rfl rfl ?_
              refine aw_ialdN hX (48 + c) (by assumption) (ix48 c) (by omega) (by first | decide | assumption) dL_goes_77 ?_
              refine aw_iconst hX (1) dL_goes_78 (by decide) ?_
              refine aw_iload hX dL_goes_79 rfl ?_
              refine aw_ishl hX dL_goes_81 ?_
              refine AW.top (y := mk i) rfl ?_
              refine aw_ior hX dL_goes_82 ?_
              refine aw_iastN hX (48 + c) (by assumption) (ix48 c) (by omega) (by first | decide | assumption) dL_goes_83 ?_
              have e := e.ub (upd b (48 + c) (b (48 + c) ||| mk i))
              have sm := sm.set (a := 190) (c := cI 64 (upd b (48 + c) (b (48 + c) ||| mk i))) (by omega) (by omega)
              generalize hset hh 190 (cI 64 (upd b (48 + c) (b (48 + c) ||| mk i))) = hk at e sm ⊢
              obtain ⟨e0, e1, e2, e3, e4⟩ := id e
              refine aw_aload_n hX dL_goes_84 rfl ?_
              refine aw_iconst hX (5) dL_goes_85 (by decide) ?_
              refine aw_dup2 hX dL_goes_86 rfl rfl ?_
              refine aw_ialdN hX (5) (by assumption) rfl (by decide) (by first | decide | assumption) dL_goes_87 ?_
              refine aw_iconst hX (1) dL_goes_88 (by decide) ?_
              refine aw_iadd hX dL_goes_89 ?_
              refine aw_iastN hX (5) (by assumption) rfl (by decide) (by first | decide | assumption) dL_goes_90 ?_
              refine aw_goto hX 162 dL_goes_91 (by decide) ?_
              exact next (u' - 1) (tryF vv c i) _ _ _ _ (by omega) (e.ug (upd g 5 (g 5 + 1))) R' hq (sm.set (by omega) (by omega))
  refine aw_iload hX dL_goes_0 rfl ?_
  refine aw_iconst hX (1) dL_goes_2 (by decide) ?_
  refine aw_isub hX dL_goes_3 ?_
  rw [show nI u - 1 = nI (u - 1) from pk_sub (b := 1) hu]
  refine aw_istore hX dL_goes_4 (Nat.le_of_ble_eq_true rfl) ?_
  refine aw_aload_n hX dL_goes_6 rfl ?_
  refine aw_iload_n hX dL_goes_7 rfl ?_
  refine aw_ialdN hX (c) (by assumption) rfl (by omega) (by first | decide | assumption) dL_goes_8 ?_
  refine aw_aload_n hX dL_goes_9 rfl ?_
  refine aw_bipush hX (16) dL_goes_10 (by decide) ?_
  refine aw_iload_n hX dL_goes_12 rfl ?_
  refine aw_iadd hX dL_goes_13 ?_
  refine aw_ialdN hX (16 + c) (by assumption) (ix16 c) (by omega) (by first | decide | assumption) dL_goes_14 ?_
  refine aw_ixor hX dL_goes_15 ?_
  refine aw_aload_n hX dL_goes_16 rfl ?_
  refine aw_bipush hX (48) dL_goes_17 (by decide) ?_
  refine aw_iload_n hX dL_goes_19 rfl ?_
  refine aw_iadd hX dL_goes_20 ?_
  refine aw_ialdN hX (48 + c) (by assumption) (ix48 c) (by omega) (by first | decide | assumption) dL_goes_21 ?_
  refine aw_iconst hX (-1) dL_goes_22 (by decide) ?_
  refine aw_ixor hX dL_goes_23 ?_
  refine aw_iand hX dL_goes_24 ?_
  rw [hdue]
  refine aw_istore hX dL_goes_25 (Nat.le_of_ble_eq_true rfl) ?_
  refine aw_iconst hX (0) dL_goes_27 (by decide) ?_
  refine aw_istore hX dL_goes_28 (Nat.le_of_ble_eq_true rfl) ?_
  exact loop 7 0 (u - 1) v h g b f rfl (by omega) hL H rfl Sm.rf
end LSEC
/-! the order of a second: seven stages -/
def ccF (o W k : Nat) : Nat := if o = 1 then W - 1 - k else k
def cnd (v : PV) (o t c : Nat) : Bool := if o = 2 then decide (bcF (dueP v c) = nI t) else (decide (t = 7) && DD v c)
def rowL (v : PV) (o W t k : Nat) : List Nat := ((List.range' k (W - k)).map (ccF o W)).filter (cnd v o t)
def stgL (v : PV) (o W : Nat) : Nat → List Nat
  | 0 => []
  | t + 1 => rowL v o W (t + 1) 0 ++ stgL v o W t
section STG
variable {v : PV} {o W t k : Nat}
theorem rowL_out (h : W ≤ k) : rowL v o W t k = [] := by
  unfold rowL
  rw [show W - k = 0 by omega]
  rfl
theorem rowL_in (h : k < W) : rowL v o W t k = if cnd v o t (ccF o W k) = true then ccF o W k :: rowL v o W t (k + 1) else rowL v o W t (k + 1) := by
  unfold rowL
  rw [show W - k = (W - (k + 1)) + 1 by omega, List.range'_succ, List.map_cons, List.filter_cons]
theorem ccF_lt (h : k < W) : ccF o W k < W := by
  unfold ccF
  split <;> omega
theorem cc_id {o W : Nat} (ho : ¬ o = 1) (l : List Nat) : l.map (ccF o W) = l := (List.map_congr_left (fun k _ => (if_neg ho : ccF o W k = k))).trans (List.map_id'' (fun _ => rfl) l)
theorem flt40 {p : Nat → Bool} (hW : W ≤ 40) (h : ∀ c, W ≤ c → c < 40 → p c = false) : (List.range 40).filter p = (List.range W).filter p := by
  have h1 : List.range 40 = List.range W ++ (List.range (40 - W)).map (W + ·) := by
    rw [← List.range_add, show W + (40 - W) = 40 by omega]
  rw [h1, List.filter_append, show ((List.range (40 - W)).map (W + ·)).filter p = [] from List.filter_eq_nil_iff.mpr (fun c hc hd => by
    obtain ⟨k, hk, rfl⟩ := List.mem_map.mp hc
    have := List.mem_range.mp hk
    rw [h _ (by omega) (by omega)] at hd
    cases hd), List.append_nil]
theorem stgL_nil (ho : ¬ o = 2) : ∀ t, t ≤ 6 → stgL v o W t = []
  | 0, _ => rfl
  | t + 1, h => by
    rw [stgL, stgL_nil ho t (by omega), List.append_nil]
    refine List.filter_eq_nil_iff.mpr (fun c _ hd => ?_)
    rw [cnd, if_neg ho, show decide (t + 1 = 7) = false from decide_eq_false (by omega)] at hd
    cases hd
theorem row7 (ho : ¬ o = 2) : rowL v o W 7 0 = ((List.range W).map (ccF o W)).filter (DD v) := by
  rw [List.range_eq_range']
  refine List.filter_congr (fun c _ => ?_)
  rw [cnd, if_neg ho, show decide (7 = 7) = true from rfl, Bool.true_and]
theorem stg7 (ho : ¬ o = 2) : stgL v o W 7 = ((List.range W).map (ccF o W)).filter (DD v) := by
  rw [stgL, stgL_nil ho 6 (Nat.le_refl _), List.append_nil, row7 ho]
theorem DD_f {c : Nat} (hW : v.1.1 = nI W) (hW4 : W ≤ 40) (h1 : W ≤ c) (h2 : c < 40) : DD v c = false :=
  decide_eq_false (fun q => by have := dueP_lt hW hW4 h2 q; omega)
theorem bcF_z : bcF 0 = 0 := bcF_cnt 0 (by decide)
theorem full_ex (hB : BO v) (hW : v.1.1 = nI W) (hW4 : W ≤ 40) (ho : o ≤ 2) (P : Nat) : psF (ordF v o) 40 0 v P = psL (stgL v o W 7) v P ∧ (stgL v o W 7).Pairwise (· ≠ ·) ∧ ∀ c, c ∈ stgL v o W 7 → c < W ∧ ¬ dueP v c = 0 := by
  have key : ∀ L : List Nat, (List.range' 0 40).map (ordF v o) = L → L.Pairwise (· ≠ ·) → (∀ c, c ∈ L → c < 40) → L.filter (DD v) = stgL v o W 7 → psF (ordF v o) 40 0 v P = psL (stgL v o W 7) v P ∧ (stgL v o W 7).Pairwise (· ≠ ·) ∧ ∀ c, c ∈ stgL v o W 7 → c < W ∧ ¬ dueP v c = 0 := fun L e1 e2 e3 e4 => by
    rw [← e4]
    refine ⟨?_, e2.filter _, fun c hc => ?_⟩
    · rw [psF_L, e1]
      exact psL_filter v L v P e2 (fun c _ => rfl)
    · obtain ⟨h1, h2⟩ := List.mem_filter.mp hc
      have h3 := of_decide_eq_true h2
      exact ⟨dueP_lt hW hW4 (e3 c h1) h3, h3⟩
  rcases (show o = 0 ∨ o = 1 ∨ o = 2 by omega) with q | q | q <;> subst q
  · refine key (List.range' 0 40) (List.map_id'' (fun k => rfl) _) ((List.pairwise_lt_range' (s := 0) (n := 40)).imp (fun h => Nat.ne_of_lt h)) (fun c hc => by have := List.mem_range'_1.mp hc; omega) ?_
    rw [stg7 (by decide), cc_id (by decide), ← List.range_eq_range']
    exact flt40 hW4 (fun c h1 h2 => DD_f hW hW4 h1 h2)
  · refine key (List.range 40).reverse ((List.map_congr_left (fun k _ => rfl)).trans rev40) (by decide) (fun c hc => List.mem_range.mp (List.mem_reverse.mp hc)) ?_
    have e : (List.range W).map (ccF 1 W) = (List.range W).reverse := List.ext_getElem (by simp) (fun i h1 h2 => by simp [ccF])
    rw [stg7 (by decide), e, List.filter_reverse, List.filter_reverse, flt40 hW4 (fun c h1 h2 => DD_f hW hW4 h1 h2)]
  · have hl := hB.len
    have hr := upL_rel v 8 (Nat.le_refl _)
    refine key (upL v 8) ((List.map_congr_left (fun k _ => rfl)).trans (upL_map hl)) (hr.imp (fun h => relD_irr h)) (fun c hc => upL_mem v 8 c hc) ?_
    have row : ∀ d, 1 ≤ d → d ≤ 7 → (bkt v d 40).filter (DD v) = rowL v 2 W d 0 := fun d h1 h2 => by
      have e : rowL v 2 W d 0 = (List.range W).filter (fun c => decide (bcF (dueP v c) = nI d)) := by
        unfold rowL
        rw [cc_id (by decide), Nat.sub_zero, ← List.range_eq_range']
        exact List.filter_congr (fun c _ => if_pos rfl)
      rw [e, bkt, List.filter_filter, flt40 hW4 (fun c h3 h4 => by rw [DD_f hW hW4 h3 h4, Bool.false_and])]
      refine List.filter_congr (fun c _ => ?_)
      by_cases q : bcF (dueP v c) = nI d
      · have hn : ¬ dueP v c = 0 := fun z => by
          rw [z, bcF_z] at q
          have := (nI_eq (a := 0) (b := d) (by decide) (by omega)).mp q
          omega
        simp [q, hn]
      · simp [q]
    have row0 : (bkt v 0 40).filter (DD v) = [] := List.filter_eq_nil_iff.mpr (fun c hc hd => by
      obtain ⟨h1, h2⟩ := List.mem_filter.mp hc
      have h3 := hB.due (c := c) (List.mem_range.mp h1)
      have h4 := h3.pos (of_decide_eq_true hd)
      rw [of_decide_eq_true h2] at h4
      exact Int32.lt_irrefl h4)
    have up : ∀ r, r ≤ 7 → (upL v r).filter (DD v) ++ stgL v 2 W (7 - r) = stgL v 2 W 7 := by
      intro r
      induction r with
      | zero => intro _; rfl
      | succ r ih =>
        intro hr
        rw [← ih (by omega), show 7 - r = (7 - (r + 1)) + 1 by omega, stgL, show 7 - (r + 1) + 1 = 7 - r by omega, ← row (7 - r) (by omega) (by omega), ← List.append_assoc, ← List.filter_append]
        rfl
    have h7 := up 7 (Nat.le_refl _)
    rw [show 7 - 7 = 0 from rfl, stgL, List.append_nil] at h7
    show (upL v 7 ++ bkt v (7 - 7) 40).filter (DD v) = _
    rw [List.filter_append, h7, show 7 - 7 = 0 from rfl, row0, List.append_nil]
end STG
