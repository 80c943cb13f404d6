/-! the law's acts: jam, mend, pass; acts as a whole -/
theorem or_ab : ∀ k, k < 128 → ∀ r, r < 7 → ¬ nI k &&& mk r = 0 → nI k ||| mk r = nI k := by decide +kernel
theorem B7.orx {x : Int32} (h : B7 x) {r : Nat} (hr : r < 7) (e : ¬ x &&& mk r = 0) : x ||| mk r = x := by
  obtain ⟨k, hk, rfl⟩ := h.ex
  exact or_ab k hk r hr e
section LACT4
variable {X : CX} {h : HP} {g b lt m : IF} {f : Nat → Int64} {B : FV} {W P o M T n v k c r : Nat} {z : Int32}
theorem LD.jam {v : PV} (H : LD g b f v W P o M) {c r : Nat} (hc : c < W) (hr : r < 7) : LD g (upd b (32 + c) (v.1.2.2.2.1 c ||| mk r)) f ((v.1.1, v.1.2.1, v.1.2.2.1, upd v.1.2.2.2.1 c (v.1.2.2.2.1 c ||| mk r), v.1.2.2.2.2), v.2) W P o M := by
  obtain ⟨⟨⟨v1, v2, v3, v4, v5, v6⟩, hW, hZ⟩, h2, h3, h4⟩ := H
  have hB := (v6 c (by omega)).2.2.1
  refine ⟨⟨⟨v1, v2, v3, v4, v5, fun d hd => ⟨(v6 d hd).1, (v6 d hd).2.1, B7_upd (fun q hq => (v6 q hq).2.2.1) (hB.or (B7_mk r hr)) d hd, (v6 d hd).2.2.2⟩⟩, hW, hZ.stuck hc _⟩, h2, h3.stuck hW hc _, h4.same rfl (fun d s hd hs w => ?_)⟩
  replace w : upd v.1.2.2.2.1 c (v.1.2.2.2.1 c ||| mk r) d &&& mk s = 0 := w
  by_cases e : d = c
  · subst e
    rw [pk_us] at w
    exact (hB.orm hr hs w).1
  · rw [pk_un e] at w
    exact w
theorem LD.mend {v : PV} (H : LD g b f v W P o M) {c r : Nat} {y : Nat → Nat} (hc : c < W) (hr : r < 7) (hy : YF v c y) : LD g (upd (upd b (32 + c) (v.1.2.2.2.1 c &&& (mk r ^^^ (-1)))) (48 + c) (v.1.2.2.2.2.1 c &&& (mk r ^^^ (-1)))) (vp_updL f c (lN (pkF (updN y r 0)))) ((v.1.1, v.1.2.1, v.1.2.2.1, upd v.1.2.2.2.1 c (v.1.2.2.2.1 c &&& (mk r ^^^ (-1))), upd v.1.2.2.2.2.1 c (v.1.2.2.2.2.1 c &&& (mk r ^^^ (-1))), upd v.1.2.2.2.2.2 (c * 7 + r) 0), v.2) W P o M := by
  obtain ⟨⟨⟨v1, v2, v3, v4, v5, v6⟩, hW, hZ⟩, h2, h3, h4⟩ := H
  have hB := (v6 c (by omega)).2.2.1
  have hK := (v6 c (by omega)).2.2.2
  refine ⟨⟨⟨v1, v2, v3, v4, v5, fun d hd => ⟨(v6 d hd).1, (v6 d hd).2.1, B7_upd (fun q hq => (v6 q hq).2.2.1) (hB.and _) d hd, B7_upd (fun q hq => (v6 q hq).2.2.2) (hK.and _) d hd⟩⟩, hW, ZW.known (hZ.stuck hc _) hc _⟩, h2, LB.known (h3.stuck hW hc _) hW hc _, h4.put hr hy (fun d s hd hs hn => pk_un (by omega)) pk_us (Nat.zero_le _) (fun _ => (by decide : 0 < 200)) (fun d hd hn => pk_un hn) (fun s hs hn w => ?_)⟩
  replace w : upd v.1.2.2.2.1 c (v.1.2.2.2.1 c &&& (mk r ^^^ (-1))) c &&& mk s = 0 := w
  rw [pk_us] at w
  exact hB.anm hr hs hn w
theorem acts_jam (hX : Cx X RL cL_acts (some .boolean) 7 180 0 0 n (AP T)) (H : LX g b f lt m h B W P o M T) (hc : c < W) (hr : r < 7) : AW X n h 0 0 909 [some (.ref 5), some (.ref 189), some (.ref 190), some (.ref 191), some (.ref 192), some (.ref 193), some (.int z), some (.int (nI v)), some (.int (nI (BS B).2.2.2.2)), some (.int (nI k)), some (.int (nI c)), some (.int (nI r)), none, none, none, none, none, none, none, none, none, none, none, none, none, none] [] := by
  obtain ⟨e, eb, H, hl, hm, hs, hT1⟩ := H
  obtain ⟨e0, e1, e2, e3, e4⟩ := id e
  have hV := H.1.1
  have hW14 := H.1.2.1
  have z3 : b (32 + c) = B.1.1.2.2.2.1 c := (H.2.2.1 c hc).2.2.1
  have hB : B7 (B.1.1.2.2.2.1 c) := (hV.2.2.2.2.2 c (by omega)).2.2.1
  obtain ⟨y, hfy, hy⟩ := H.2.2.2 c hc
  have hcc : (nI c).toNatClampNeg = c := nI_clamp (by omega)
  have hrc : (nI r).toNatClampNeg = r := nI_clamp (by omega)
  have hcond : (0 ≤ nI c ∧ nI c < B.1.1.1 ∧ nI c < 40) ∧ 0 ≤ nI r ∧ nI r < 7 := ⟨⟨Int32.not_lt.mp (nI_pos (by omega)), by rw [hV.1]; exact (nI_ltI (by omega) (by omega)).mpr hc, (nI_ltI (a := c) (b := 40) (by omega) (by decide)).mpr (by omega)⟩, Int32.not_lt.mp (nI_pos (by omega)), (nI_ltI (a := r) (b := 7) (by omega) (by decide)).mpr hr⟩
  have h1 : ¬ B.1.1.2.2.2.1 c &&& mk r = 0 → fJam B (nI c) (nI r) = (-1002, B) := fun w => by rw [fJam, hcc, hrc, if_pos hcond, if_neg w]
  have h2 : B.1.1.2.2.2.1 c &&& mk r = 0 → fJam B (nI c) (nI r) = (B.1.1.2.2.2.2.2 (c * 7 + r), setD B (B.1.1.1, B.1.1.2.1, B.1.1.2.2.1, upd B.1.1.2.2.2.1 c (B.1.1.2.2.2.1 c ||| mk r), B.1.1.2.2.2.2)) := fun w => by rw [fJam, hcc, hrc, if_pos hcond, if_pos w]
  by_cases w : B.1.1.2.2.2.1 c &&& mk r = 0
  · have h2 := h2 w
    refine aw_aload_n hX dL_acts_909 rfl ?_
    refine aw_bipush hX (32) dL_acts_910 (by decide) ?_
    refine aw_iload hX dL_acts_912 rfl ?_
    refine aw_iadd hX dL_acts_914 ?_
    refine aw_ialdN hX (32 + c) (by assumption) (ix32 c) (by omega) (by first | decide | assumption) dL_acts_915 ?_
    rw [z3]
    refine aw_iload hX dL_acts_916 rfl ?_
    refine aw_ishr hX dL_acts_918 ?_
    refine aw_iconst hX (1) dL_acts_919 (by decide) ?_
    refine aw_iand hX dL_acts_920 ?_
    rw [hB.bit hr]
    refine aw_iconst hX (1) dL_acts_921 (by decide) ?_
    refine aw_icmp_ne hX 929 dL_acts_922 (by decide) (fun c_922 => ?_) (fun c_922 => ?_)
    · refine aw_iconst hX (0) dL_acts_929 (by decide) ?_
      refine aw_istore hX dL_acts_930 (Nat.le_of_ble_eq_true rfl) ?_
      refine aw_aload_n hX dL_acts_932 rfl ?_
      refine aw_bipush hX (32) dL_acts_933 (by decide) ?_
      refine aw_iload hX dL_acts_935 rfl ?_
      refine aw_iadd hX dL_acts_937 ?_
      refine aw_dup2 hX dL_acts_938 rfl rfl ?_
      refine aw_ialdN hX (32 + c) (by assumption) (ix32 c) (by omega) (by first | decide | assumption) dL_acts_939 ?_
      rw [z3]
      refine aw_iconst hX (1) dL_acts_940 (by decide) ?_
      refine aw_iload hX dL_acts_941 rfl ?_
      refine aw_ishl hX dL_acts_943 ?_
      refine AW.top (y := mk r) rfl ?_
      refine aw_ior hX dL_acts_944 ?_
      refine aw_iastN hX (32 + c) (by assumption) (ix32 c) (by omega) (by first | decide | assumption) dL_acts_945 ?_
      have e := e.ub (upd b (32 + c) (B.1.1.2.2.2.1 c ||| mk r))
      have eb := eb.out (a := 190) (cI 64 (upd b (32 + c) (B.1.1.2.2.2.1 c ||| mk r))) (by omega)
      generalize hset h 190 (cI 64 (upd b (32 + c) (B.1.1.2.2.2.1 c ||| mk r))) = hk at e eb ⊢
      have b0 := eb.1
      refine aw_aload_n hX dL_acts_946 rfl ?_
      refine aw_iload hX dL_acts_947 rfl ?_
      refine aw_iload hX dL_acts_949 rfl ?_
      refine aw_callV0 hX RL rfl (tX9_jam _ _ _ eb _ _) rfl mf_X9_jam mi_X9_jam ms_X9_jam kl_L_71 (by assumption) rfl rfl (by decide) (Nat.le_of_ble_eq_true rfl) dL_acts_951 (by first | decide | omega) (fun v_951 h_951 p_951 => ?_)
      obtain ⟨rfl, eb, sm⟩ := pb_at p_951 h2
      have e := e.sm sm (by omega)
      obtain ⟨e0, e1, e2, e3, e4⟩ := id e
      refine aw_iload hX dL_acts_954 rfl ?_
      refine aw_if_eq hX 965 dL_acts_956 (by decide) (fun c_956 => ?_) (fun c_956 => ?_)
      · refine aw_aload_n hX dL_acts_965 rfl ?_
        refine aw_iload hX dL_acts_966 rfl ?_
        refine aw_laldN hX (c) (by assumption) rfl (by omega) (by first | decide | assumption) dL_acts_968 ?_
        rw [hfy]
        refine aw_bipush hX (8) dL_acts_969 (by decide) ?_
        refine aw_iload hX dL_acts_971 rfl ?_
        refine aw_imul hX dL_acts_973 ?_
        refine aw_lshr hX dL_acts_974 ?_
        refine aw_ldc2 hX kk_L_19 dL_acts_975 ?_
        refine aw_land hX dL_acts_978 ?_
        rw [ff_get (YF.le hy) hr]
        refine aw_l2i hX dL_acts_979 ?_
        refine AW.top (y := nI (y r)) (lN_i _) ?_
        refine aw_icmp_ne hX 987 dL_acts_980 (by decide) (fun c_980 => ?_) (fun c_980 => ?_)
        · exact absurd (hy r hr).1 c_980
        · refine aw_iconst hX (1) dL_acts_983 (by decide) ?_
          refine aw_goto hX 988 dL_acts_984 (by decide) ?_
          exact aw_zret hX rfl (by first | exact Or.inl rfl | exact Or.inr rfl | assumption) rfl rfl rfl dL_acts_988 (by exact LX.fin (T' := T) ⟨e, eb, H.jam hc hr, hl, hm, hs, hT1⟩ (by omega))
      · exact absurd rfl c_956
    · exact absurd w (bI_1.mp c_922)
  · have h1 := h1 w
    have hx := hB.orx hr w
    refine aw_aload_n hX dL_acts_909 rfl ?_
    refine aw_bipush hX (32) dL_acts_910 (by decide) ?_
    refine aw_iload hX dL_acts_912 rfl ?_
    refine aw_iadd hX dL_acts_914 ?_
    refine aw_ialdN hX (32 + c) (by assumption) (ix32 c) (by omega) (by first | decide | assumption) dL_acts_915 ?_
    rw [z3]
    refine aw_iload hX dL_acts_916 rfl ?_
    refine aw_ishr hX dL_acts_918 ?_
    refine aw_iconst hX (1) dL_acts_919 (by decide) ?_
    refine aw_iand hX dL_acts_920 ?_
    rw [hB.bit hr]
    refine aw_iconst hX (1) dL_acts_921 (by decide) ?_
    refine aw_icmp_ne hX 929 dL_acts_922 (by decide) (fun c_922 => ?_) (fun c_922 => ?_)
    · exact absurd (bI_1.mpr w) c_922
    · refine aw_iconst hX (1) dL_acts_925 (by decide) ?_
      refine aw_goto hX 930 dL_acts_926 (by decide) ?_
      refine aw_istore hX dL_acts_930 (Nat.le_of_ble_eq_true rfl) ?_
      refine aw_aload_n hX dL_acts_932 rfl ?_
      refine aw_bipush hX (32) dL_acts_933 (by decide) ?_
      refine aw_iload hX dL_acts_935 rfl ?_
      refine aw_iadd hX dL_acts_937 ?_
      refine aw_dup2 hX dL_acts_938 rfl rfl ?_
      refine aw_ialdN hX (32 + c) (by assumption) (ix32 c) (by omega) (by first | decide | assumption) dL_acts_939 ?_
      rw [z3]
      refine aw_iconst hX (1) dL_acts_940 (by decide) ?_
      refine aw_iload hX dL_acts_941 rfl ?_
      refine aw_ishl hX dL_acts_943 ?_
      refine AW.top (y := mk r) rfl ?_
      refine aw_ior hX dL_acts_944 ?_
      refine aw_iastN hX (32 + c) (by assumption) (ix32 c) (by omega) (by first | decide | assumption) dL_acts_945 ?_
      have e := e.ub (upd b (32 + c) (B.1.1.2.2.2.1 c ||| mk r))
      have eb := eb.out (a := 190) (cI 64 (upd b (32 + c) (B.1.1.2.2.2.1 c ||| mk r))) (by omega)
      generalize hset h 190 (cI 64 (upd b (32 + c) (B.1.1.2.2.2.1 c ||| mk r))) = hk at e eb ⊢
      have b0 := eb.1
      refine aw_aload_n hX dL_acts_946 rfl ?_
      refine aw_iload hX dL_acts_947 rfl ?_
      refine aw_iload hX dL_acts_949 rfl ?_
      refine aw_callV0 hX RL rfl (tX9_jam _ _ _ eb _ _) rfl mf_X9_jam mi_X9_jam ms_X9_jam kl_L_71 (by assumption) rfl rfl (by decide) (Nat.le_of_ble_eq_true rfl) dL_acts_951 (by first | decide | omega) (fun v_951 h_951 p_951 => ?_)
      obtain ⟨rfl, eb, sm⟩ := pb_at p_951 h1
      have e := e.sm sm (by omega)
      obtain ⟨e0, e1, e2, e3, e4⟩ := id e
      refine aw_iload hX dL_acts_954 rfl ?_
      refine aw_if_eq hX 965 dL_acts_956 (by decide) (fun c_956 => ?_) (fun c_956 => ?_)
      · exact absurd c_956 (by decide)
      · refine aw_sipush hX (-1002) dL_acts_959 (by decide) ?_
        refine aw_goto hX 980 dL_acts_962 (by decide) ?_
        refine aw_icmp_ne hX 987 dL_acts_980 (by decide) (fun c_980 => ?_) (fun c_980 => ?_)
        · exact absurd rfl c_980
        · refine aw_iconst hX (1) dL_acts_983 (by decide) ?_
          refine aw_goto hX 988 dL_acts_984 (by decide) ?_
          exact aw_zret hX rfl (by first | exact Or.inl rfl | exact Or.inr rfl | assumption) rfl rfl rfl dL_acts_988 (by exact LX.fin (T' := T) ⟨e, eb, ⟨H.1, H.2.1, LB.ext H.2.2.1 (fun q => by by_cases u : q = 32 + c; (rw [u, pk_us, hx, z3]); exact pk_un u), H.2.2.2⟩, hl, hm, hs, hT1⟩ (by omega))
theorem acts_mend (hX : Cx X RL cL_acts (some .boolean) 7 180 0 0 n (AP T)) (H : LX g b f lt m h B W P o M T) (hc : c < W) (hr : r < 7) : AW X n h 0 0 989 [some (.ref 5), some (.ref 189), some (.ref 190), some (.ref 191), some (.ref 192), some (.ref 193), some (.int z), some (.int (nI v)), some (.int (nI (BS B).2.2.2.2)), some (.int (nI k)), some (.int (nI c)), some (.int (nI r)), none, none, none, none, none, none, none, none, none, none, none, none, none, none] [] := by
  obtain ⟨e, eb, H, hl, hm, hs, hT1⟩ := H
  obtain ⟨e0, e1, e2, e3, e4⟩ := id e
  have hV := H.1.1
  have hW14 := H.1.2.1
  have z3 : b (32 + c) = B.1.1.2.2.2.1 c := (H.2.2.1 c hc).2.2.1
  have z4 : b (48 + c) = B.1.1.2.2.2.2.1 c := (H.2.2.1 c hc).2.2.2
  have hB : B7 (B.1.1.2.2.2.1 c) := (hV.2.2.2.2.2 c (by omega)).2.2.1
  obtain ⟨y, hfy, hy⟩ := H.2.2.2 c hc
  have hcc : (nI c).toNatClampNeg = c := nI_clamp (by omega)
  have hrc : (nI r).toNatClampNeg = r := nI_clamp (by omega)
  have hcond : (0 ≤ nI c ∧ nI c < B.1.1.1 ∧ nI c < 40) ∧ 0 ≤ nI r ∧ nI r < 7 := ⟨⟨Int32.not_lt.mp (nI_pos (by omega)), by rw [hV.1]; exact (nI_ltI (by omega) (by omega)).mpr hc, (nI_ltI (a := c) (b := 40) (by omega) (by decide)).mpr (by omega)⟩, Int32.not_lt.mp (nI_pos (by omega)), (nI_ltI (a := r) (b := 7) (by omega) (by decide)).mpr hr⟩
  have hyes : fMend B (nI c) (nI r) = (bI (¬ B.1.1.2.2.2.1 c &&& mk r = 0), setD B (B.1.1.1, B.1.1.2.1, B.1.1.2.2.1, upd B.1.1.2.2.2.1 c (B.1.1.2.2.2.1 c &&& (mk r ^^^ (-1))), upd B.1.1.2.2.2.2.1 c (B.1.1.2.2.2.2.1 c &&& (mk r ^^^ (-1))), upd B.1.1.2.2.2.2.2 (c * 7 + r) 0)) := by rw [fMend, hcc, hrc, if_pos hcond]
  refine aw_aload_n hX dL_acts_989 rfl ?_
  refine aw_bipush hX (32) dL_acts_990 (by decide) ?_
  refine aw_iload hX dL_acts_992 rfl ?_
  refine aw_iadd hX dL_acts_994 ?_
  refine aw_ialdN hX (32 + c) (by assumption) (ix32 c) (by omega) (by first | decide | assumption) dL_acts_995 ?_
  rw [z3]
  refine aw_iload hX dL_acts_996 rfl ?_
  refine aw_ishr hX dL_acts_998 ?_
  refine aw_iconst hX (1) dL_acts_999 (by decide) ?_
  refine aw_iand hX dL_acts_1000 ?_
  rw [hB.bit hr]
  refine aw_istore hX dL_acts_1001 (Nat.le_of_ble_eq_true rfl) ?_
  refine aw_aload_n hX dL_acts_1003 rfl ?_
  refine aw_bipush hX (32) dL_acts_1004 (by decide) ?_
  refine aw_iload hX dL_acts_1006 rfl ?_
  refine aw_iadd hX dL_acts_1008 ?_
  refine aw_dup2 hX dL_acts_1009 rfl rfl ?_
  refine aw_ialdN hX (32 + c) (by assumption) (ix32 c) (by omega) (by first | decide | assumption) dL_acts_1010 ?_
  rw [z3]
  refine aw_iconst hX (1) dL_acts_1011 (by decide) ?_
  refine aw_iload hX dL_acts_1012 rfl ?_
  refine aw_ishl hX dL_acts_1014 ?_
  refine AW.top (y := mk r) rfl ?_
  refine aw_iconst hX (-1) dL_acts_1015 (by decide) ?_
  refine aw_ixor hX dL_acts_1016 ?_
  refine aw_iand hX dL_acts_1017 ?_
  refine aw_iastN hX (32 + c) (by assumption) (ix32 c) (by omega) (by first | decide | assumption) dL_acts_1018 ?_
  have e := e.ub (upd b (32 + c) (B.1.1.2.2.2.1 c &&& (mk r ^^^ (-1))))
  have eb := eb.out (a := 190) (cI 64 (upd b (32 + c) (B.1.1.2.2.2.1 c &&& (mk r ^^^ (-1))))) (by omega)
  generalize hset h 190 (cI 64 (upd b (32 + c) (B.1.1.2.2.2.1 c &&& (mk r ^^^ (-1))))) = hk at e eb ⊢
  obtain ⟨e0, e1, e2, e3, e4⟩ := id e
  refine aw_aload_n hX dL_acts_1019 rfl ?_
  refine aw_bipush hX (48) dL_acts_1020 (by decide) ?_
  refine aw_iload hX dL_acts_1022 rfl ?_
  refine aw_iadd hX dL_acts_1024 ?_
  refine aw_dup2 hX dL_acts_1025 rfl rfl ?_
  refine aw_ialdN hX (48 + c) (by assumption) (ix48 c) (by omega) (by first | decide | assumption) dL_acts_1026 ?_
  rw [show upd b (32 + c) (B.1.1.2.2.2.1 c &&& (mk r ^^^ (-1))) (48 + c) = B.1.1.2.2.2.2.1 c from (pk_un (by omega)).trans z4]
  refine aw_iconst hX (1) dL_acts_1027 (by decide) ?_
  refine aw_iload hX dL_acts_1028 rfl ?_
  refine aw_ishl hX dL_acts_1030 ?_
  refine AW.top (y := mk r) rfl ?_
  refine aw_iconst hX (-1) dL_acts_1031 (by decide) ?_
  refine aw_ixor hX dL_acts_1032 ?_
  refine aw_iand hX dL_acts_1033 ?_
  refine aw_iastN hX (48 + c) (by assumption) (ix48 c) (by omega) (by first | decide | assumption) dL_acts_1034 ?_
  have e := e.ub (upd (upd b (32 + c) (B.1.1.2.2.2.1 c &&& (mk r ^^^ (-1)))) (48 + c) (B.1.1.2.2.2.2.1 c &&& (mk r ^^^ (-1))))
  have eb := eb.out (a := 190) (cI 64 (upd (upd b (32 + c) (B.1.1.2.2.2.1 c &&& (mk r ^^^ (-1)))) (48 + c) (B.1.1.2.2.2.2.1 c &&& (mk r ^^^ (-1))))) (by omega)
  generalize hset hk 190 (cI 64 (upd (upd b (32 + c) (B.1.1.2.2.2.1 c &&& (mk r ^^^ (-1)))) (48 + c) (B.1.1.2.2.2.2.1 c &&& (mk r ^^^ (-1))))) = hk at e eb ⊢
  obtain ⟨e0, e1, e2, e3, e4⟩ := id e
  refine aw_aload_n hX dL_acts_1035 rfl ?_
  refine aw_iload hX dL_acts_1036 rfl ?_
  refine aw_dup2 hX dL_acts_1038 rfl rfl ?_
  refine aw_laldN hX (c) (by assumption) rfl (by omega) (by first | decide | assumption) dL_acts_1039 ?_
  rw [hfy]
  refine aw_ldc2 hX kk_L_19 dL_acts_1040 ?_
  refine aw_bipush hX (8) dL_acts_1043 (by decide) ?_
  refine aw_iload hX dL_acts_1045 rfl ?_
  refine aw_imul hX dL_acts_1047 ?_
  refine aw_lshl hX dL_acts_1048 ?_
  refine aw_ldc2 hX kk_L_74 dL_acts_1049 ?_
  refine aw_lxor hX dL_acts_1052 ?_
  refine aw_land hX dL_acts_1053 ?_
  rw [ff_clr (YF.le hy) hr]
  refine aw_lastN hX (c) (by assumption) rfl (by omega) (by first | decide | assumption) dL_acts_1054 ?_
  have e := e.uf (vp_updL f c (lN (pkF (updN y r 0))))
  have eb := eb.out (a := 191) (cL 16 (vp_updL f c (lN (pkF (updN y r 0))))) (by omega)
  generalize hset hk 191 (cL 16 (vp_updL f c (lN (pkF (updN y r 0))))) = hk at e eb ⊢
  have b0 := eb.1
  refine aw_aload_n hX dL_acts_1055 rfl ?_
  refine aw_iload hX dL_acts_1056 rfl ?_
  refine aw_iload hX dL_acts_1058 rfl ?_
  refine aw_callV0 hX RL rfl (tX9_mend _ _ _ eb _ _) rfl mf_X9_mend mi_X9_mend ms_X9_mend kl_L_76 (by assumption) rfl rfl (by decide) (Nat.le_of_ble_eq_true rfl) dL_acts_1060 (by first | decide | omega) (fun v_1060 h_1060 p_1060 => ?_)
  obtain ⟨rfl, eb, sm⟩ := pb_at p_1060 hyes
  refine aw_iload hX dL_acts_1063 rfl ?_
  refine aw_icmp_ne hX 1072 dL_acts_1065 (by decide) (fun c_1065 => ?_) (fun c_1065 => ?_)
  · exact absurd rfl c_1065
  · refine aw_iconst hX (1) dL_acts_1068 (by decide) ?_
    refine aw_goto hX 1073 dL_acts_1069 (by decide) ?_
    exact aw_zret hX rfl (by first | exact Or.inl rfl | exact Or.inr rfl | assumption) rfl rfl rfl dL_acts_1073 (by exact LX.fin (T' := T) ⟨e.sm sm (by omega), eb, H.mend hc hr hy, hl, hm, hs, hT1⟩ (by omega))
def sA (v : Nat) : Nat := if v % 9 = 0 then 1 + v / 9 % 30 else 1 + v % 3
theorem sA_in (v : Nat) : 1 ≤ sA v ∧ sA v ≤ 30 := by
  unfold sA
  split <;> omega
theorem acts_pass {s : Nat} (hX : Cx X RL cL_acts (some .boolean) 7 180 s (16 * s) (n + s) (AP T)) (H : LX g b f lt m h B W P o M T) (hT : T ≤ 10000) (hn : 194 ≤ n) (hv : v < 1000000) (hsd : sA v = s) : AW X n h 0 0 1074 [some (.ref 5), some (.ref 189), some (.ref 190), some (.ref 191), some (.ref 192), some (.ref 193), some (.int z), some (.int (nI v)), some (.int (nI (BS B).2.2.2.2)), some (.int (nI k)), some (.int (nI c)), some (.int (nI r)), none, none, none, none, none, none, none, none, none, none, none, none, none, none] [] := by
  obtain ⟨e, eb, H, hl, hm, hs, hT1⟩ := H
  have hV := H.1.1
  obtain ⟨s1, s30⟩ := sA_in v
  rw [hsd] at s1 s30
  have hsc : (nI s).toNatClampNeg = s := nI_clamp (by omega)
  have hyes : fPass B P o (nI s) = (dueN (secN P o s B.1), (secN P o s B.1, keepF B.2.1 B.1, B.2.2)) := by rw [fPass, hsc, if_pos ⟨(nI_leI (a := 1) (b := s) (by decide) (by omega)).mpr s1, (nI_leI (a := s) (b := 200) (by omega) (by decide)).mpr (by omega)⟩]
  have loop : ∀ (y j : Nat) (g b : IF) (f : Nat → Int64) (hh : HP), j ≤ s → s - j < y → HL hh g b f lt m → HB hh 5 B → LD g b f (secN P o j B.1) W P o M → AW X (n + j) hh j (16 * j) 1106 [some (.ref 5), some (.ref 189), some (.ref 190), some (.ref 191), some (.ref 192), some (.ref 193), some (.int z), some (.int (nI v)), some (.int (nI (BS B).2.2.2.2)), some (.int (nI k)), some (.int (nI c)), some (.int (nI r)), none, none, none, none, none, none, none, none, none, none, none, none, some (.int (nI s)), some (.int (nI j))] [] := by
    intro y
    induction y with
    | zero => intro j g b f hh h1 h2; omega
    | succ y ih =>
      intro j g b f hh h1 h2 e eb R
      obtain ⟨e0, e1, e2, e3, e4⟩ := id e
      have b0 := eb.1
      refine aw_iload hX dL_acts_1106 rfl ?_
      refine aw_iload hX dL_acts_1108 rfl ?_
      refine aw_icmp_ge hX 1125 dL_acts_1110 (by decide) (fun c_1110 => ?_) (fun c_1110 => ?_)
      · have n_1110 : s ≤ j := (nI_leI (a := s) (b := j) (by omega) (by omega)).mp c_1110
        have hjs : j = s := by omega
        subst hjs
        refine aw_aload_n hX dL_acts_1125 rfl ?_
        refine aw_iload hX dL_acts_1126 rfl ?_
        refine aw_callV0 hX RL rfl (tX9_pass _ _ _ eb hV (by omega) _) rfl mf_X9_pass mi_X9_pass ms_X9_pass kl_L_83 (by assumption) rfl rfl (by decide) (Nat.le_of_ble_eq_true rfl) dL_acts_1128 (by first | decide | omega) (fun v_1128 h_1128 p_1128 => ?_)
        obtain ⟨rfl, eb, sm⟩ := pb_at p_1128 hyes
        have e := e.sm sm (by omega)
        obtain ⟨e0, e1, e2, e3, e4⟩ := id e
        refine aw_aload_n hX dL_acts_1131 rfl ?_
        refine aw_aload_n hX dL_acts_1132 rfl ?_
        refine aw_callSp hX RL rfl (tL_due _ _ _ e0 e1 R) rfl mf_L_due mt_L_due kl_L_63 rfl (by decide) (Nat.le_of_ble_eq_true rfl) dL_acts_1133 (by first | decide | omega) ?_
        refine aw_icmp_ne hX 1143 dL_acts_1136 (by decide) (fun c_1136 => ?_) (fun c_1136 => ?_)
        · exact absurd rfl c_1136
        · refine aw_iconst hX (1) dL_acts_1139 (by decide) ?_
          refine aw_goto hX 1144 dL_acts_1140 (by decide) ?_
          exact aw_zret hX rfl (by first | exact Or.inl rfl | exact Or.inr rfl | assumption) rfl rfl rfl dL_acts_1144 (by obtain ⟨w1, w2, w3⟩ := secN_K B.1 P o j; exact LX.fin (T' := T + j) ⟨e, eb, R, by (show LL lt (secN P o j B.1).2.2.1); rw [w2]; exact hl, by (show LM m (secN P o j B.1).2.2.1); rw [w2]; exact hm, by (show SB (secN P o j B.1).2.2.1); rw [w2]; exact hs, by (show (secN P o j B.1).2.1.2.2.2.1 ≤ T + j); rw [w3]; omega⟩ (by omega))
      · have n_1110 : ¬ s ≤ j := fun q_ => c_1110 ((nI_leI (a := s) (b := j) (by omega) (by omega)).mpr q_)
        refine aw_aload_n hX dL_acts_1113 rfl ?_
        refine aw_aload_n hX dL_acts_1114 rfl ?_
        refine aw_aload_n hX dL_acts_1115 rfl ?_
        refine aw_callS hX RL rfl (tL_second _ _ (n + j) (by omega) e R) rfl mf_L_second mt_L_second kl_L_79 rfl (by decide) (Nat.le_of_ble_eq_true rfl) dL_acts_1116 (by first | decide | omega) (fun v_1116 h_1116 p_1116 => ?_)
        obtain ⟨rfl, g', b', f', e', R', sm⟩ := p_1116
        refine aw_iinc hX (nI (j + 1)) dL_acts_1119 rfl (nI_1 j) ?_
        refine aw_goto hX 1106 dL_acts_1122 (by decide) ?_
        refine AW.cast (n' := n + (j + 1)) (k' := j + 1) (sl' := 16 * (j + 1)) (by omega) rfl (by omega) ?_
        exact ih (j + 1) g' b' f' _ (by omega) (by omega) e' (eb.sm sm (by omega)) R'
  refine aw_iload hX dL_acts_1074 rfl ?_
  refine aw_bipush hX (9) dL_acts_1076 (by decide) ?_
  refine aw_irem hX dL_acts_1078 (by decide) ?_
  refine AW.top (y := nI (v % 9)) (pk_rem (a := v) (d := 9) (by omega) (by decide) (by decide)) ?_
  refine aw_if_ne hX 1095 dL_acts_1079 (by decide) (fun c_1079 => ?_) (fun c_1079 => ?_)
  · have n_1079 : ¬ v % 9 = 0 := fun q_ => c_1079 ((nI_eq (a := v % 9) (b := 0) (by omega) (by omega)).mpr q_)
    refine aw_iconst hX (1) dL_acts_1095 (by decide) ?_
    refine aw_iload hX dL_acts_1096 rfl ?_
    refine aw_iconst hX (3) dL_acts_1098 (by decide) ?_
    refine aw_irem hX dL_acts_1099 (by decide) ?_
    refine AW.top (y := nI (v % 3)) (pk_rem (a := v) (d := 3) (by omega) (by decide) (by decide)) ?_
    refine aw_iadd hX dL_acts_1100 ?_
    refine AW.top (y := nI (1 + v % 3)) (nI_add 1 _) ?_
    refine AW.top (y := nI s) (by rw [← hsd]; first | exact (congrArg nI (if_pos n_1079)).symm | exact (congrArg nI (if_neg n_1079)).symm) ?_
    refine aw_istore hX dL_acts_1101 (Nat.le_of_ble_eq_true rfl) ?_
    refine aw_iconst hX (0) dL_acts_1103 (by decide) ?_
    refine aw_istore hX dL_acts_1104 (Nat.le_of_ble_eq_true rfl) ?_
    exact loop (s + 1) 0 g b f h (Nat.zero_le _) (by omega) e eb H
  · have n_1079 : v % 9 = 0 := (nI_eq (a := v % 9) (b := 0) (by omega) (by omega)).mp c_1079
    refine aw_iconst hX (1) dL_acts_1082 (by decide) ?_
    refine aw_iload hX dL_acts_1083 rfl ?_
    refine aw_bipush hX (9) dL_acts_1085 (by decide) ?_
    refine aw_idiv hX dL_acts_1087 (by decide) ?_
    refine AW.top (y := nI (v / 9)) (pk_div (a := v) (d := 9) (by omega) (by decide) (by decide)) ?_
    refine aw_bipush hX (30) dL_acts_1088 (by decide) ?_
    refine aw_irem hX dL_acts_1090 (by decide) ?_
    refine AW.top (y := nI (v / 9 % 30)) (pk_rem (a := v / 9) (d := 30) (by omega) (by decide) (by decide)) ?_
    refine aw_iadd hX dL_acts_1091 ?_
    refine AW.top (y := nI (1 + v / 9 % 30)) (nI_add 1 _) ?_
    refine aw_goto hX 1101 dL_acts_1092 (by decide) ?_
    refine AW.top (y := nI s) (by rw [← hsd]; first | exact (congrArg nI (if_pos n_1079)).symm | exact (congrArg nI (if_neg n_1079)).symm) ?_
    refine aw_istore hX dL_acts_1101 (Nat.le_of_ble_eq_true rfl) ?_
    refine aw_iconst hX (0) dL_acts_1103 (by decide) ?_
    refine aw_istore hX dL_acts_1104 (Nat.le_of_ble_eq_true rfl) ?_
    exact loop (s + 1) 0 g b f h (Nat.zero_le _) (by omega) e eb H
/-! acts -/
theorem acts_head {mc ms n1 : Nat} {post : Option Value → HP → Prop} (hX : Cx X RL cL_acts (some .boolean) 7 180 mc ms n1 post) (hmc : 0 ≤ mc ∧ 0 ≤ ms) (H : LX g b f lt m h B W P o M T) (kk : ∀ v k c r : Nat, v = lowF (z >>> ((5 : Int32) &&& 31)) 1000000 → (0 < (BS B).2.2.2.2 → k < (BS B).2.2.2.2) → c < W → r < 7 → AW X n h 0 0 59 [some (.ref 5), some (.ref 189), some (.ref 190), some (.ref 191), some (.ref 192), some (.ref 193), some (.int z), some (.int (nI v)), some (.int (nI (BS B).2.2.2.2)), some (.int (nI k)), some (.int (nI c)), some (.int (nI r)), none, none, none, none, none, none, none, none, none, none, none, none, none, none] [.int (nI (lowF z 20))]) : AW X n h 0 0 0 [some (.ref 5), some (.ref 189), some (.ref 190), some (.ref 191), some (.ref 192), some (.ref 193), some (.int z), none, none, none, none, none, none, none, none, none, none, none, none, none, none, none, none, none, none, none] [] := by
  obtain ⟨e, eb, H, hl, hm, hs, hT1⟩ := H
  obtain ⟨e0, e1, e2, e3, e4⟩ := id e
  have hW6 := H.1.1.2.1.1
  have hW14 := H.1.2.1
  have g0 : g 0 = nI W := H.2.1.1.1
  obtain ⟨⟨m0, m4⟩, -⟩ := id hm
  have hv := lowF_lt (z >>> ((5 : Int32) &&& 31)) (N := 1000000) (by decide)
  obtain ⟨v, hvd⟩ : ∃ v, lowF (z >>> ((5 : Int32) &&& 31)) 1000000 = v := ⟨_, rfl⟩
  rw [hvd] at hv
  obtain ⟨k, hkd⟩ : ∃ k, (if (BS B).2.2.2.2 = 0 then 0 else v % (BS B).2.2.2.2) = k := ⟨_, rfl⟩
  have hk : 0 < (BS B).2.2.2.2 → k < (BS B).2.2.2.2 := fun q => by
    rw [← hkd, if_neg (by omega)]
    exact Nat.mod_lt _ q
  refine aw_iload hX dL_acts_0 rfl ?_
  refine aw_iconst hX (5) dL_acts_2 (by decide) ?_
  refine aw_ishr hX dL_acts_3 ?_
  refine aw_ldc hX kk_L_33 dL_acts_4 ?_
  refine aw_callSp hX RL rfl (tL_low _ _ _ _ (z >>> ((5 : Int32) &&& 31)) (N := 1000000) (by decide) (by decide)) rfl mf_L_low mt_L_low kl_L_34 rfl (by decide) (Nat.le_of_ble_eq_true rfl) dL_acts_6 (by first | decide | omega) ?_
  rw [hvd]
  refine aw_istore hX dL_acts_9 (Nat.le_of_ble_eq_true rfl) ?_
  refine aw_aload hX dL_acts_11 rfl ?_
  refine aw_bipush hX (60) dL_acts_13 (by decide) ?_
  refine aw_ialdN hX (60) (by assumption) rfl (by decide) (by first | decide | assumption) dL_acts_15 ?_
  rw [m0]
  refine aw_istore hX dL_acts_16 (Nat.le_of_ble_eq_true rfl) ?_
  refine aw_iload hX dL_acts_18 rfl ?_
  refine aw_if_ne hX 27 dL_acts_20 (by decide) (fun c_20 => ?_) (fun c_20 => ?_)
  · have n_20 : ¬ (BS B).2.2.2.2 = 0 := fun q_ => c_20 ((nI_eq (a := (BS B).2.2.2.2) (b := 0) (by omega) (by omega)).mpr q_)
    refine aw_iload hX dL_acts_27 rfl ?_
    refine aw_iload hX dL_acts_29 rfl ?_
    refine aw_irem hX dL_acts_31 (nI_ne0 (by omega) (by omega)) ?_
    refine AW.top (y := nI (v % (BS B).2.2.2.2)) (pk_rem (by omega) (by omega) (by omega)) ?_
    refine AW.top (y := nI k) (by rw [← hkd]; first | exact (congrArg nI (if_pos n_20)).symm | exact (congrArg nI (if_neg n_20)).symm) ?_
    refine aw_istore hX dL_acts_32 (Nat.le_of_ble_eq_true rfl) ?_
    refine aw_iload hX dL_acts_34 rfl ?_
    refine aw_aload_n hX dL_acts_36 rfl ?_
    refine aw_iconst hX (0) dL_acts_37 (by decide) ?_
    refine aw_ialdN hX (0) (by assumption) rfl (by decide) (by first | decide | assumption) dL_acts_38 ?_
    rw [g0]
    refine aw_irem hX dL_acts_39 (nI_ne0 (by omega) (by omega)) ?_
    refine AW.top (y := nI (v % W)) (pk_rem (by omega) (by omega) (by omega)) ?_
    refine aw_istore hX dL_acts_40 (Nat.le_of_ble_eq_true rfl) ?_
    refine aw_iload hX dL_acts_42 rfl ?_
    refine aw_bipush hX (16) dL_acts_44 (by decide) ?_
    refine aw_idiv hX dL_acts_46 (by decide) ?_
    refine AW.top (y := nI (v / 16)) (pk_div (a := v) (d := 16) (by omega) (by decide) (by decide)) ?_
    refine aw_bipush hX (7) dL_acts_47 (by decide) ?_
    refine aw_irem hX dL_acts_49 (by decide) ?_
    refine AW.top (y := nI (v / 16 % 7)) (pk_rem (a := v / 16) (d := 7) (by omega) (by decide) (by decide)) ?_
    refine aw_istore hX dL_acts_50 (Nat.le_of_ble_eq_true rfl) ?_
    refine aw_iload hX dL_acts_52 rfl ?_
    refine aw_bipush hX (20) dL_acts_54 (by decide) ?_
    refine aw_callSp hX RL rfl (tL_low _ _ _ _ z (N := 20) (by decide) (by decide)) rfl mf_L_low mt_L_low kl_L_34 rfl (by decide) (Nat.le_of_ble_eq_true rfl) dL_acts_56 (by first | decide | omega) ?_
    exact kk v k (v % W) (v / 16 % 7) hvd.symm hk (Nat.mod_lt _ (by omega)) (Nat.mod_lt _ (by decide))
  · have n_20 : (BS B).2.2.2.2 = 0 := (nI_eq (a := (BS B).2.2.2.2) (b := 0) (by omega) (by omega)).mp c_20
    refine aw_iconst hX (0) dL_acts_23 (by decide) ?_
    refine aw_goto hX 32 dL_acts_24 (by decide) ?_
    refine AW.top (y := nI k) (by rw [← hkd]; first | exact (congrArg nI (if_pos n_20)).symm | exact (congrArg nI (if_neg n_20)).symm) ?_
    refine aw_istore hX dL_acts_32 (Nat.le_of_ble_eq_true rfl) ?_
    refine aw_iload hX dL_acts_34 rfl ?_
    refine aw_aload_n hX dL_acts_36 rfl ?_
    refine aw_iconst hX (0) dL_acts_37 (by decide) ?_
    refine aw_ialdN hX (0) (by assumption) rfl (by decide) (by first | decide | assumption) dL_acts_38 ?_
    rw [g0]
    refine aw_irem hX dL_acts_39 (nI_ne0 (by omega) (by omega)) ?_
    refine AW.top (y := nI (v % W)) (pk_rem (by omega) (by omega) (by omega)) ?_
    refine aw_istore hX dL_acts_40 (Nat.le_of_ble_eq_true rfl) ?_
    refine aw_iload hX dL_acts_42 rfl ?_
    refine aw_bipush hX (16) dL_acts_44 (by decide) ?_
    refine aw_idiv hX dL_acts_46 (by decide) ?_
    refine AW.top (y := nI (v / 16)) (pk_div (a := v) (d := 16) (by omega) (by decide) (by decide)) ?_
    refine aw_bipush hX (7) dL_acts_47 (by decide) ?_
    refine aw_irem hX dL_acts_49 (by decide) ?_
    refine AW.top (y := nI (v / 16 % 7)) (pk_rem (a := v / 16) (d := 7) (by omega) (by decide) (by decide)) ?_
    refine aw_istore hX dL_acts_50 (Nat.le_of_ble_eq_true rfl) ?_
    refine aw_iload hX dL_acts_52 rfl ?_
    refine aw_bipush hX (20) dL_acts_54 (by decide) ?_
    refine aw_callSp hX RL rfl (tL_low _ _ _ _ z (N := 20) (by decide) (by decide)) rfl mf_L_low mt_L_low kl_L_34 rfl (by decide) (Nat.le_of_ble_eq_true rfl) dL_acts_56 (by first | decide | omega) ?_
    exact kk v k (v % W) (v / 16 % 7) hvd.symm hk (Nat.mod_lt _ (by omega)) (Nat.mod_lt _ (by decide))
def cA (z : Int32) : Nat := if lowF z 20 < 16 then 0 else sA (lowF (z >>> ((5 : Int32) &&& 31)) 1000000)
theorem tL_acts (l : Launch) (E : EV) (n : Nat) (hn : 194 ≤ n) (H : LX g b f lt m h B W P o M T) (hT : T ≤ 10000) (z : Int32) : ML_acts (cA z) l E n h [.ref 5, .ref 189, .ref 190, .ref 191, .ref 192, .ref 193, .int z] (AP T) := by
  refine AM.intro mf_L_acts (by simp [Value.category]) (Nat.le_of_ble_eq_true rfl) (fun X hl hE hnm hX => ?_)
  subst hl
  subst hE
  show AW X _ _ 0 0 0 [some (.ref 5), some (.ref 189), some (.ref 190), some (.ref 191), some (.ref 192), some (.ref 193), some (.int z), none, none, none, none, none, none, none, none, none, none, none, none, none, none, none, none, none, none, none] []
  refine acts_head hX ⟨Nat.zero_le _, Nat.zero_le _⟩ H (fun v k c r hvd hk hc hr => ?_)
  have hv : v < 1000000 := by rw [hvd]; exact lowF_lt _ (by decide)
  have hq20 := lowF_lt z (N := 20) (by decide)
  by_cases h16 : lowF z 20 < 16
  · have hA : cA z = 0 := if_pos h16
    rw [hA] at hX
    generalize lowF z 20 = q at h16 ⊢
    rcases (show q = 0 ∨ q = 1 ∨ q = 2 ∨ q = 3 ∨ q = 4 ∨ q = 5 ∨ q = 6 ∨ q = 7 ∨ q = 8 ∨ q = 9 ∨ q = 10 ∨ q = 11 ∨ q = 12 ∨ q = 13 ∨ q = 14 ∨ q = 15 by omega) with w | w | w | w | w | w | w | w | w | w | w | w | w | w | w | w <;> subst w
    · exact aw_tabIn hX 136 dL_acts_59 (by decide) (by decide) rfl (by decide) (acts_begin hX H hv)
    · exact aw_tabIn hX 245 dL_acts_59 (by decide) (by decide) rfl (by decide) (acts_number hX H hv)
    · exact aw_tabIn hX 245 dL_acts_59 (by decide) (by decide) rfl (by decide) (acts_number hX H hv)
    · exact aw_tabIn hX 353 dL_acts_59 (by decide) (by decide) rfl (by decide) (acts_column hX H hv)
    · exact aw_tabIn hX 353 dL_acts_59 (by decide) (by decide) rfl (by decide) (acts_column hX H hv)
    · exact aw_tabIn hX 353 dL_acts_59 (by decide) (by decide) rfl (by decide) (acts_column hX H hv)
    · exact aw_tabIn hX 484 dL_acts_59 (by decide) (by decide) rfl (by decide) (acts_add hX H hv)
    · exact aw_tabIn hX 484 dL_acts_59 (by decide) (by decide) rfl (by decide) (acts_add hX H hv)
    · exact aw_tabIn hX 638 dL_acts_59 (by decide) (by decide) rfl (by decide) (acts_remove hX H hv hk)
    · exact aw_tabIn hX 732 dL_acts_59 (by decide) (by decide) rfl (by decide) (acts_show hX H hv hk)
    · exact aw_tabIn hX 732 dL_acts_59 (by decide) (by decide) rfl (by decide) (acts_show hX H hv hk)
    · exact aw_tabIn hX 732 dL_acts_59 (by decide) (by decide) rfl (by decide) (acts_show hX H hv hk)
    · exact aw_tabIn hX 732 dL_acts_59 (by decide) (by decide) rfl (by decide) (acts_show hX H hv hk)
    · exact aw_tabIn hX 847 dL_acts_59 (by decide) (by decide) rfl (by decide) (acts_dark hX H hv)
    · exact aw_tabIn hX 909 dL_acts_59 (by decide) (by decide) rfl (by decide) (acts_jam hX H hc hr)
    · exact aw_tabIn hX 989 dL_acts_59 (by decide) (by decide) rfl (by decide) (acts_mend hX H hc hr)
  · have hA : cA z = sA v := (if_neg h16).trans (by rw [hvd])
    rw [hA] at hX
    exact aw_tabOut hX 1074 dL_acts_59 (Or.inr (by rw [nI_toInt (by omega)]; omega)) (by decide) (acts_pass hX H hT hn hv rfl)
end LACT4
