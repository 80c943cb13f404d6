/-! members of the JDK, and the copy of rows -/
theorem hset_hset (h : HP) (a : Nat) (c c' : AC) : hset (hset h a c) a c' = hset h a c' := by
  funext q
  unfold hset
  by_cases e : q = a <;> simp [e]
theorem hset_self {h : HP} {a : Nat} {c : AC} (e : h a = some c) : hset h a c = h := by
  funext q
  unfold hset
  by_cases e2 : q = a
  · rw [if_pos e2, e2, e]
  · rw [if_neg e2]
theorem hset_comm (h : HP) {a b : Nat} (c c' : AC) (e : a ≠ b) : hset (hset h a c) b c' = hset (hset h b c') a c := by
  funext q
  unfold hset
  by_cases e2 : q = a
  · subst e2; simp [e]
  · simp [e2]
theorem arrV_ext {c : ClassId} {N : Nat} {f g : Nat → Value} (e : ∀ j, j < N → f j = g j) : arrV c N f = arrV c N g := by
  unfold arrV
  congr 1
  refine Array.ext (by simp) (fun i h1 h2 => ?_)
  simp only [Array.getElem_ofFn]
  exact e i (by simpa using h1)
/-- an array's content may be told in other words, as far as it goes -/
theorem AW.ext {X : CX} {n : Nat} {h : HP} {k sl pc a N : Nat} {f : IF} (g : IF) {L : List (Option Value)} {st : List Value} (hh : h a = some (cI N f)) (e : ∀ j, j < N → f j = g j) (kk : AW X n (hset h a (cI N g)) k sl pc L st) : AW X n h k sl pc L st := by
  obtain ⟨p, l, e0, R, s, m, args, below, meth, c, Q, E, nL⟩ := X
  intro H locs ls hW hS hz hl
  refine kk H locs ls ⟨hW.1, hW.2.1, fun p0 c0 hp => ?_, fun p0 h1 h2 => ?_⟩ hS hz hl
  · by_cases e1 : p0 = a
    · subst e1
      rw [hset_eq] at hp
      cases hp
      obtain ⟨h1, h2, h3⟩ := hW.2.2.1 _ _ hh
      refine ⟨h1, h2, ?_⟩
      show H[ad E p0]? = some (vp_cell (eC E 0) (N, .inl g))
      have h4 : H[ad E p0]? = some (vp_cell (eC E 0) (N, .inl f)) := h3
      rw [h4, vp_cell_i, vp_cell_i]
      exact congrArg some (arrV_ext (fun j hj => by rw [e j hj]))
    · rw [hset_ne h _ e1] at hp
      exact hW.2.2.1 _ _ hp
  · by_cases e1 : p0 = a
    · rw [e1, hset_eq]; rfl
    · rw [hset_ne h _ e1]; exact hW.2.2.2 p0 h1 h2
def ushF (a b : Int32) : Int32 := (a.toUInt32 >>> (b.toUInt32 &&& Int32.toUInt32 31)).toInt32
def bc1 (x : Int32) : Int32 := x - (ushF x 1 &&& 1431655765)
def bc2 (x : Int32) : Int32 := (x &&& 858993459) + (ushF x 2 &&& 858993459)
def bc3 (x : Int32) : Int32 := (x + ushF x 4) &&& 252645135
def bc4 (x : Int32) : Int32 := x + ushF x 8
def bc5 (x : Int32) : Int32 := x + ushF x 16
/-- Integer.bitCount -/
def bcF (x : Int32) : Int32 := bc5 (bc4 (bc3 (bc2 (bc1 x)))) &&& 63
theorem tJ6_bitCount (l : Launch) (E : EV) (n : Nat) (h : HP) (x : Int32) : MJ6_bitCount_0f7a4 l E n h [.int x] (PR (.int (bcF x)) h) := by
  refine AM.intro mf_J6_bitCount_0f7a4 (by simp [Value.category]) (Nat.le_of_ble_eq_true rfl) (fun X hl hE hnm hX => ?_)
  subst hl
  subst hE
  show AW X _ _ 0 0 0 [some (.int x)] []
  refine aw_iload_n hX dJ6_bitCount_0f7a4_0 rfl ?_
  refine aw_iload_n hX dJ6_bitCount_0f7a4_1 rfl ?_
  refine aw_iconst hX (1) dJ6_bitCount_0f7a4_2 (by decide) ?_
  refine aw_iushr hX dJ6_bitCount_0f7a4_3 ?_
  refine aw_ldcw hX kk_J6_265 dJ6_bitCount_0f7a4_4 ?_
  refine aw_iand hX dJ6_bitCount_0f7a4_7 ?_
  refine aw_isub hX dJ6_bitCount_0f7a4_8 ?_
  refine aw_istore_n hX dJ6_bitCount_0f7a4_9 (Nat.le_of_ble_eq_true rfl) ?_
  show AW X _ _ 0 0 10 [some (.int (bc1 x))] []
  refine aw_iload_n hX dJ6_bitCount_0f7a4_10 rfl ?_
  refine aw_ldcw hX kk_J6_266 dJ6_bitCount_0f7a4_11 ?_
  refine aw_iand hX dJ6_bitCount_0f7a4_14 ?_
  refine aw_iload_n hX dJ6_bitCount_0f7a4_15 rfl ?_
  refine aw_iconst hX (2) dJ6_bitCount_0f7a4_16 (by decide) ?_
  refine aw_iushr hX dJ6_bitCount_0f7a4_17 ?_
  refine aw_ldcw hX kk_J6_266 dJ6_bitCount_0f7a4_18 ?_
  refine aw_iand hX dJ6_bitCount_0f7a4_21 ?_
  refine aw_iadd hX dJ6_bitCount_0f7a4_22 ?_
  refine aw_istore_n hX dJ6_bitCount_0f7a4_23 (Nat.le_of_ble_eq_true rfl) ?_
  show AW X _ _ 0 0 24 [some (.int (bc2 (bc1 x)))] []
  refine aw_iload_n hX dJ6_bitCount_0f7a4_24 rfl ?_
  refine aw_iload_n hX dJ6_bitCount_0f7a4_25 rfl ?_
  refine aw_iconst hX (4) dJ6_bitCount_0f7a4_26 (by decide) ?_
  refine aw_iushr hX dJ6_bitCount_0f7a4_27 ?_
  refine aw_iadd hX dJ6_bitCount_0f7a4_28 ?_
  refine aw_ldcw hX kk_J6_267 dJ6_bitCount_0f7a4_29 ?_
  refine aw_iand hX dJ6_bitCount_0f7a4_32 ?_
  refine aw_istore_n hX dJ6_bitCount_0f7a4_33 (Nat.le_of_ble_eq_true rfl) ?_
  show AW X _ _ 0 0 34 [some (.int (bc3 (bc2 (bc1 x))))] []
  refine aw_iload_n hX dJ6_bitCount_0f7a4_34 rfl ?_
  refine aw_iload_n hX dJ6_bitCount_0f7a4_35 rfl ?_
  refine aw_bipush hX (8) dJ6_bitCount_0f7a4_36 (by decide) ?_
  refine aw_iushr hX dJ6_bitCount_0f7a4_38 ?_
  refine aw_iadd hX dJ6_bitCount_0f7a4_39 ?_
  refine aw_istore_n hX dJ6_bitCount_0f7a4_40 (Nat.le_of_ble_eq_true rfl) ?_
  show AW X _ _ 0 0 41 [some (.int (bc4 (bc3 (bc2 (bc1 x)))))] []
  refine aw_iload_n hX dJ6_bitCount_0f7a4_41 rfl ?_
  refine aw_iload_n hX dJ6_bitCount_0f7a4_42 rfl ?_
  refine aw_bipush hX (16) dJ6_bitCount_0f7a4_43 (by decide) ?_
  refine aw_iushr hX dJ6_bitCount_0f7a4_45 ?_
  refine aw_iadd hX dJ6_bitCount_0f7a4_46 ?_
  refine aw_istore_n hX dJ6_bitCount_0f7a4_47 (Nat.le_of_ble_eq_true rfl) ?_
  show AW X _ _ 0 0 48 [some (.int (bc5 (bc4 (bc3 (bc2 (bc1 x))))))] []
  refine aw_iload_n hX dJ6_bitCount_0f7a4_48 rfl ?_
  refine aw_bipush hX (63) dJ6_bitCount_0f7a4_49 (by decide) ?_
  refine aw_iand hX dJ6_bitCount_0f7a4_51 ?_
  exact aw_iret hX rfl rfl rfl rfl dJ6_bitCount_0f7a4_52 (by exact ⟨rfl, rfl⟩)
theorem tJ9_max (l : Launch) (E : EV) (n : Nat) (h : HP) (x y : Int32) : MJ9_max_7cf53 l E n h [.int x, .int y] (PR (.int (if x < y then y else x)) h) := by
  refine AM.intro mf_J9_max_7cf53 (by simp [Value.category]) (Nat.le_of_ble_eq_true rfl) (fun X hl hE hnm hX => ?_)
  subst hl
  subst hE
  show AW X _ _ 0 0 0 [some (.int x), some (.int y)] []
  refine aw_iload_n hX dJ9_max_7cf53_0 rfl ?_
  refine aw_iload_n hX dJ9_max_7cf53_1 rfl ?_
  refine aw_icmp_lt hX 9 dJ9_max_7cf53_2 (by decide) (fun c_2 => ?_) (fun c_2 => ?_)
  · refine aw_iload_n hX dJ9_max_7cf53_9 rfl ?_
    exact aw_iret hX rfl rfl rfl rfl dJ9_max_7cf53_10 (by exact ⟨by simp [c_2], rfl⟩)
  · refine aw_iload_n hX dJ9_max_7cf53_5 rfl ?_
    refine aw_goto hX 10 dJ9_max_7cf53_6 (by decide) ?_
    exact aw_iret hX rfl rfl rfl rfl dJ9_max_7cf53_10 (by exact ⟨by simp [c_2], rfl⟩)
theorem tJ9_min (l : Launch) (E : EV) (n : Nat) (h : HP) (x y : Int32) : MJ9_min_7cf53 l E n h [.int x, .int y] (PR (.int (if y < x then y else x)) h) := by
  refine AM.intro mf_J9_min_7cf53 (by simp [Value.category]) (Nat.le_of_ble_eq_true rfl) (fun X hl hE hnm hX => ?_)
  subst hl
  subst hE
  show AW X _ _ 0 0 0 [some (.int x), some (.int y)] []
  refine aw_iload_n hX dJ9_min_7cf53_0 rfl ?_
  refine aw_iload_n hX dJ9_min_7cf53_1 rfl ?_
  refine aw_icmp_gt hX 9 dJ9_min_7cf53_2 (by decide) (fun c_2 => ?_) (fun c_2 => ?_)
  · refine aw_iload_n hX dJ9_min_7cf53_9 rfl ?_
    exact aw_iret hX rfl rfl rfl rfl dJ9_min_7cf53_10 (by exact ⟨by simp [c_2], rfl⟩)
  · refine aw_iload_n hX dJ9_min_7cf53_5 rfl ?_
    refine aw_goto hX 10 dJ9_min_7cf53_6 (by decide) ?_
    exact aw_iret hX rfl rfl rfl rfl dJ9_min_7cf53_10 (by exact ⟨by simp [c_2], rfl⟩)
theorem xor_pos {a b : Nat} (ha : a < 2 ^ 31) (hb : b < 2 ^ 31) : 0 ≤ nI a ^^^ nI b := by
  have e : nI a ^^^ nI b = nI (a ^^^ b) := by
    apply Int32.toBitVec_inj.mp
    rw [Int32.toBitVec_xor]
    show BitVec.ofNat 32 a ^^^ BitVec.ofNat 32 b = BitVec.ofNat 32 (a ^^^ b)
    apply BitVec.eq_of_toNat_eq
    simp [BitVec.toNat_xor, BitVec.toNat_ofNat]
  rw [e]
  exact nI_pos' (Nat.xor_lt_two_pow ha hb)
theorem tJ9_floorMod (l : Launch) (E : EV) (n : Nat) (h : HP) {a b : Nat} (ha : a < 2 ^ 31) (hb : b < 2 ^ 31) (h0 : 0 < b) : MJ9_floorMod_7cf53 l E n h [.int (nI a), .int (nI b)] (PR (.int (nI (a % b))) h) := by
  refine AM.intro mf_J9_floorMod_7cf53 (by simp [Value.category]) (Nat.le_of_ble_eq_true rfl) (fun X hl hE hnm hX => ?_)
  subst hl
  subst hE
  show AW X _ _ 0 0 0 [some (.int (nI a)), some (.int (nI b)), none] []
  refine aw_iload_n hX dJ9_floorMod_7cf53_0 rfl ?_
  refine aw_iload_n hX dJ9_floorMod_7cf53_1 rfl ?_
  refine aw_irem hX dJ9_floorMod_7cf53_2 (nI_ne0 h0 hb) ?_
  rw [pk_rem ha h0 hb]
  refine aw_istore_n hX dJ9_floorMod_7cf53_3 (Nat.le_of_ble_eq_true rfl) ?_
  refine aw_iload_n hX dJ9_floorMod_7cf53_4 rfl ?_
  refine aw_iload_n hX dJ9_floorMod_7cf53_5 rfl ?_
  refine aw_ixor hX dJ9_floorMod_7cf53_6 ?_
  refine aw_if_ge hX 18 dJ9_floorMod_7cf53_7 (by decide) (fun c_7 => ?_) (fun c_7 => ?_)
  · refine aw_iload_n hX dJ9_floorMod_7cf53_18 rfl ?_
    exact aw_iret hX rfl rfl rfl rfl dJ9_floorMod_7cf53_19 (by exact ⟨rfl, rfl⟩)
  · exact absurd (xor_pos ha hb) c_7
theorem upd_lo {g : IF} {j : Nat} {x : Int32} (h : ∀ i, i < j → g i = x) : ∀ i, i < j + 1 → upd g j x i = x := fun i hi => by
  by_cases e : i = j
  · subst e
    exact pk_us
  · rw [pk_un e]
    exact h i (by omega)
/-- Arrays.fill -/
theorem tJ7_fill (l : Launch) (E : EV) (n : Nat) {h : HP} {a N : Nat} {f : IF} (hh : h a = some (cI N f)) (hN : N < 2 ^ 31) (x : Int32) : MJ7_fill_53178 l E n h [.ref a, .int x] (fun v h' => v = none ∧ h' = hset h a (cI N (fun _ => x))) := by
  refine AM.intro mf_J7_fill_53178 (by simp [Value.category]) (Nat.le_of_ble_eq_true rfl) (fun X hl hE hnm hX => ?_)
  subst hl
  subst hE
  show AW X _ _ 0 0 0 [some (.ref a), some (.int x), none, none] []
  have loop : ∀ (m j : Nat) (g : IF), j ≤ N → N - j < m → (∀ i, i < j → g i = x) → AW X n (hset h a (cI N g)) 0 0 5 [some (.ref a), some (.int x), some (.int (nI j)), some (.int (nI N))] [] := by
    intro m
    induction m with
    | zero => intro j g h1 h2; omega
    | succ m ih =>
      intro j g h1 h2 h3
      have e0 := hset_eq h a (cI N g)
      refine aw_iload_n hX dJ7_fill_53178_5 rfl ?_
      refine aw_iload_n hX dJ7_fill_53178_6 rfl ?_
      refine aw_icmp_ge hX 20 dJ7_fill_53178_7 (by decide) (fun c_7 => ?_) (fun c_7 => ?_)
      · have hj : j = N := by exact Nat.le_antisymm h1 (Nat.not_lt.mp (fun q => nI_ge q hN c_7))
        subst hj
        refine AW.ext (fun _ => x) e0 (fun i hi => h3 i hi) ?_
        rw [hset_hset]
        exact aw_vret hX rfl rfl rfl rfl dJ7_fill_53178_20 ⟨rfl, rfl⟩
      · have hj : j < N := by exact Nat.lt_of_le_of_ne h1 (fun q => c_7 (by rw [q]; exact nI_le (Nat.le_refl _) hN))
        refine aw_aload_n hX dJ7_fill_53178_10 rfl ?_
        refine aw_iload_n hX dJ7_fill_53178_11 rfl ?_
        refine aw_iload_n hX dJ7_fill_53178_12 rfl ?_
        refine aw_iastN hX j e0 rfl hj hN dJ7_fill_53178_13 ?_
        refine aw_iinc hX (nI (j + 1)) dJ7_fill_53178_14 rfl (nI_1 j) ?_
        refine aw_goto hX 5 dJ7_fill_53178_17 (by decide) ?_
        rw [hset_hset]
        exact ih (j + 1) (upd g j x) hj (by omega) (upd_lo h3)
  refine aw_iconst hX (0) dJ7_fill_53178_0 (by decide) ?_
  refine aw_istore_n hX dJ7_fill_53178_1 (Nat.le_of_ble_eq_true rfl) ?_
  refine aw_aload_n hX dJ7_fill_53178_2 rfl ?_
  refine aw_alen hX _ (by assumption) (by decide) rfl dJ7_fill_53178_3 ?_
  refine aw_istore_n hX dJ7_fill_53178_4 (Nat.le_of_ble_eq_true rfl) ?_
  rw [← hset_self hh]
  exact loop (N + 1) 0 f (Nat.zero_le _) (by omega) (fun i hi => absurd hi (by omega))
theorem tX9_copy (l : Launch) (E : EV) (n : Nat) {h : HP} {a b N : Nat} {f g : IF} (hh : h a = some (cI N f)) (hh2 : h b = some (cI N g)) (hN : N < 2 ^ 31) : MX9_copy l E n h [.ref a, .ref b] (fun v h' => v = none ∧ h' = hset h b (cI N f)) := by
  refine AM.intro mf_X9_copy (by simp [Value.category]) (Nat.le_of_ble_eq_true rfl) (fun X hl hE hnm hX => ?_)
  subst hl
  subst hE
  show AW X _ _ 0 0 0 [some (.ref a), some (.ref b)] []
  refine aw_aload_n hX dX9_copy_0 rfl ?_
  refine aw_iconst hX (0) dX9_copy_1 (by decide) ?_
  refine aw_aload_n hX dX9_copy_2 rfl ?_
  refine aw_iconst hX (0) dX9_copy_3 (by decide) ?_
  refine aw_aload_n hX dX9_copy_4 rfl ?_
  refine aw_alen hX _ (by assumption) (by decide) rfl dX9_copy_5 ?_
  refine aw_aload_n hX dX9_copy_6 rfl ?_
  refine aw_alen hX _ (by assumption) (by decide) rfl dX9_copy_7 ?_
  refine aw_callSp hX RX9 rfl (tJ9_min _ _ _ _ (nI N) (nI N)) rfl mf_J9_min_7cf53 mt_J9_min_7cf53 kl_X9_277 rfl (by decide) (Nat.le_of_ble_eq_true rfl) dX9_copy_8 (by decide) ?_
  rw [if_neg (nI_nlt (Nat.le_refl N) hN)]
  refine aw_acopy hX RX9 rfl kl_X9_282 m_cpy.1 m_cpy.2.1 m_cpy.2.2 (by assumption) (by assumption) (by decide) (by decide) (nI_pos hN) (by rw [nI_clamp hN]; exact Nat.le_of_eq (Nat.zero_add N)) (by rw [nI_clamp hN]; exact Nat.le_of_eq (Nat.zero_add N)) (by decide) (Nat.le_of_ble_eq_true rfl) dX9_copy_11 ?_
  rw [nI_clamp hN]
  refine AW.ext f (hset_eq h b _) (fun j hj => ?_) ?_
  · exact (pk_cpy_in (Nat.zero_le _) (by omega)).trans (by simp)
  rw [hset_hset]
  exact aw_vret hX rfl rfl rfl rfl dX9_copy_14 (by exact ⟨rfl, rfl⟩)
