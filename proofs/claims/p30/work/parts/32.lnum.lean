/-! the law's numbers: low, cell, bits; seven counts in a long -/
theorem sumI_W {f : Nat → Int32} {W : Nat} : ∀ k, (∀ c, W ≤ c → c < W + k → f c = 0) → sumI f (W + k) = sumI f W
  | 0, _ => rfl
  | k + 1, h => by
    show sumI f (W + k) + f (W + k) = sumI f W
    rw [h (W + k) (by omega) (by omega), sumI_W k (fun c h1 h2 => h c h1 (by omega)), Int32.add_zero]
theorem sumI_40 {f : Nat → Int32} {W : Nat} (hW : W ≤ 40) (h : ∀ c, W ≤ c → c < 40 → f c = 0) : sumI f W = sumI f 40 := by
  have e := sumI_W (f := f) (W := W) (40 - W) (fun c h1 h2 => h c h1 (by omega))
  rw [show W + (40 - W) = 40 by omega] at e
  exact e.symm
theorem mk_bit : ∀ k, k < 128 → ∀ i, i < 7 → (nI k >>> (nI i &&& 31)) &&& 1 = bI (¬ nI k &&& mk i = 0) := by decide +kernel
theorem B7.bit {x : Int32} (h : B7 x) {i : Nat} (hi : i < 7) : (x >>> (nI i &&& 31)) &&& 1 = bI (¬ x &&& mk i = 0) := by
  obtain ⟨k, hk, rfl⟩ := h.ex
  exact mk_bit k hk i hi
theorem bI_1 {p : Prop} [Decidable p] : bI p = 1 ↔ p := by
  by_cases h : p
  · rw [bI_t h]; exact ⟨fun _ => h, fun _ => rfl⟩
  · rw [bI_f h]; exact ⟨fun q => absurd q (by decide), fun q => absurd q h⟩
def lowF (z : Int32) (N : Nat) : Nat := z.toBitVec.toNat % 2 ^ 31 % N
theorem lowF_lt (z : Int32) {N : Nat} (h : 0 < N) : lowF z N < N := Nat.mod_lt _ h
theorem tL_low (l : Launch) (E : EV) (n : Nat) (h : HP) (z : Int32) {N : Nat} (h0 : 0 < N) (hN : N < 2 ^ 31) : ML_low l E n h [.int z, .int (nI N)] (PR (.int (nI (lowF z N))) h) := by
  refine AM.intro mf_L_low (by simp [Value.category]) (Nat.le_of_ble_eq_true rfl) (fun X hl hE hnm hX => ?_)
  subst hl
  subst hE
  show AW X _ _ 0 0 0 [some (.int z), some (.int (nI N))] []
  refine aw_iload_n hX dL_low_0 rfl ?_
  refine aw_ldc hX kk_L_8 dL_low_1 ?_
  refine aw_iand hX dL_low_3 ?_
  rw [pk_and z 31 (by decide)]
  refine aw_iload_n hX dL_low_4 rfl ?_
  refine aw_irem hX dL_low_5 (nI_ne0 h0 hN) ?_
  rw [pk_rem (Nat.mod_lt _ (by decide)) h0 hN]
  exact aw_iret hX rfl rfl rfl rfl dL_low_6 (by exact ⟨rfl, rfl⟩)
theorem tL_cell (l : Launch) (E : EV) (n : Nat) (h : HP) {L k : Nat} (hLE : eN E 4 = L) (hL : L ≤ 260) (hk : k < 2 ^ 31) : ML_cell l E n h [.ref 4, .int (nI k)] (fun r h' => (∃ z, r = some (.int z)) ∧ h' = h) := by
  refine AM.intro mf_L_cell (by simp [Value.category]) (Nat.le_of_ble_eq_true rfl) (fun X hl hE hnm hX => ?_)
  subst hl
  subst hE
  show AW X _ _ 0 0 0 [some (.ref 4), some (.int (nI k))] []
  refine aw_iload_n hX dL_cell_0 rfl ?_
  refine aw_aload_n hX dL_cell_1 rfl ?_
  refine aw_rolen hX (nI L) (by decide) (by rw [hLE]; rfl) dL_cell_2 ?_
  refine aw_icmp_ge hX 12 dL_cell_3 (by decide) (fun c_3 => ?_) (fun c_3 => ?_)
  · have n_3 : L ≤ k := (nI_leI (a := L) (b := k) (by omega) (by omega)).mp c_3
    refine aw_ldc hX kk_L_7 dL_cell_12 ?_
    refine aw_iload_n hX dL_cell_14 rfl ?_
    refine aw_iconst hX (3) dL_cell_15 (by decide) ?_
    refine aw_iadd hX dL_cell_16 ?_
    refine aw_imul hX dL_cell_17 ?_
    exact aw_iret hX rfl rfl rfl rfl dL_cell_18 (by exact ⟨⟨_, rfl⟩, rfl⟩)
  · have n_3 : ¬ L ≤ k := fun q_ => c_3 ((nI_leI (a := L) (b := k) (by omega) (by omega)).mpr q_)
    refine aw_aload_n hX dL_cell_6 rfl ?_
    refine aw_iload_n hX dL_cell_7 rfl ?_
    refine aw_roaldN hX k (by decide) rfl (by rw [hLE]; omega) (by rw [hLE]; omega) dL_cell_8 ?_
    refine aw_goto hX 18 dL_cell_9 (by decide) ?_
    exact aw_iret hX rfl rfl rfl rfl dL_cell_18 (by exact ⟨⟨_, rfl⟩, rfl⟩)
def lwN (k : Nat) : Nat := k &&& (k - 1)
theorem lw_step : ∀ k, k < 128 → ¬ k = 0 → nI k &&& (nI k - 1) = nI (lwN k) ∧ lwN k < k ∧ cntN k = cntN (lwN k) + 1 := by decide +kernel
theorem tL_bits (l : Launch) (E : EV) (n : Nat) (h : HP) {x : Int32} (hx : B7 x) : ML_bits l E n h [.int x] (PR (.int (bcF x)) h) := by
  obtain ⟨k, hk, rfl⟩ := hx.ex
  rw [bcF_cnt k (by omega)]
  refine AM.intro mf_L_bits (by simp [Value.category]) (Nat.le_of_ble_eq_true rfl) (fun X hl hE hnm hX => ?_)
  subst hl
  subst hE
  show AW X _ _ 0 0 0 [some (.int (nI k)), none, none] []
  have loop : ∀ (z j c : Nat), j < 128 → j < z → cntN k = c + cntN j → AW X n h 0 0 4 [some (.int (nI k)), some (.int (nI c)), some (.int (nI j))] [] := by
    intro z
    induction z with
    | zero => intro j c h1 h2; omega
    | succ z ih =>
      intro j c h1 h2 h3
      refine aw_iload_n hX dL_bits_4 rfl ?_
      refine aw_if_le hX 20 dL_bits_5 (by decide) (fun c_5 => ?_) (fun c_5 => ?_)
      · have n_5 : j ≤ 0 := (nI_leI (a := j) (b := 0) (by omega) (by omega)).mp c_5
        refine aw_iload_n hX dL_bits_20 rfl ?_
        exact aw_iret hX rfl rfl rfl rfl dL_bits_21 (by have hj : j = 0 := (by omega); subst hj; exact ⟨by rw [h3]; rfl, rfl⟩)
      · have n_5 : ¬ j ≤ 0 := fun q_ => c_5 ((nI_leI (a := j) (b := 0) (by omega) (by omega)).mpr q_)
        obtain ⟨w1, w2, w3⟩ := lw_step j h1 (by omega)
        refine aw_iinc hX (nI (c + 1)) dL_bits_8 rfl (nI_1 c) ?_
        refine aw_iload_n hX dL_bits_11 rfl ?_
        refine aw_iload_n hX dL_bits_12 rfl ?_
        refine aw_iconst hX (1) dL_bits_13 (by decide) ?_
        refine aw_isub hX dL_bits_14 ?_
        refine aw_iand hX dL_bits_15 ?_
        rw [w1]
        refine aw_istore_n hX dL_bits_16 (Nat.le_of_ble_eq_true rfl) ?_
        refine aw_goto hX 4 dL_bits_17 (by decide) ?_
        exact ih (lwN j) (c + 1) (by omega) (by omega) (by omega)
  refine aw_iconst hX (0) dL_bits_0 (by decide) ?_
  refine aw_istore_n hX dL_bits_1 (Nat.le_of_ble_eq_true rfl) ?_
  refine aw_iload_n hX dL_bits_2 rfl ?_
  refine aw_istore_n hX dL_bits_3 (Nat.le_of_ble_eq_true rfl) ?_
  exact loop (k + 1) k 0 hk (by omega) (Nat.zero_add _).symm
/-! a long holds seven counts, a byte each -/
theorem ff_inj {a b : Int64} (h : a.toBitVec = b.toBitVec) : a = b := Int64.toBitVec_inj.mp h
theorem ff_and (a b : Nat) : lN a &&& lN b = lN (a &&& b) := by
  apply ff_inj
  show BitVec.ofNat 64 a &&& BitVec.ofNat 64 b = BitVec.ofNat 64 (a &&& b)
  apply BitVec.eq_of_getLsbD_eq
  intro i hi
  simp [hi]
theorem ff_shr {a d : Nat} {D : Int64} (hD : (D.toBitVec.smod 64).toNat = d) (h : a < 2 ^ 62) : lN a >>> D = lN (a / 2 ^ d) := by
  have hd : a / 2 ^ d ≤ a := Nat.div_le_self _ _
  apply Int64.toInt_inj.mp
  have e : (lN a >>> D).toInt = (lN a).toInt >>> d := by
    rw [← hD]
    exact BitVec.toInt_sshiftRight ..
  rw [e, Int.shiftRight_eq_div_pow, pk_lT (by omega), pk_lT (by omega)]
  rfl
def pkF (y : Nat → Nat) : Nat := y 0 + 256 * y 1 + 65536 * y 2 + 16777216 * y 3 + 4294967296 * y 4 + 1099511627776 * y 5 + 281474976710656 * y 6
theorem ff_sh : ∀ r, r < 7 → (((8 * nI r).toInt64 &&& 63).toBitVec.smod 64).toNat = 8 * r ∧ (1 : Int64) <<< ((8 * nI r).toInt64 &&& 63) = lN (2 ^ (8 * r)) ∧ ((255 : Int64) <<< ((8 * nI r).toInt64 &&& 63)) ^^^ (-1) = lN (2 ^ 64 - 1 - 255 * 2 ^ (8 * r)) := by decide +kernel
theorem pkF_lt {y : Nat → Nat} (hy : ∀ i, i < 7 → y i ≤ 255) : pkF y < 2 ^ 56 := by
  have h0 := hy 0 (by decide)
  have h1 := hy 1 (by decide)
  have h2 := hy 2 (by decide)
  have h3 := hy 3 (by decide)
  have h4 := hy 4 (by decide)
  have h5 := hy 5 (by decide)
  have h6 := hy 6 (by decide)
  unfold pkF
  omega
theorem pkF_at {y : Nat → Nat} (hy : ∀ i, i < 7 → y i ≤ 255) {r : Nat} (hr : r < 7) : pkF y / 2 ^ (8 * r) % 2 ^ 8 = y r := by
  have h0 := hy 0 (by decide)
  have h1 := hy 1 (by decide)
  have h2 := hy 2 (by decide)
  have h3 := hy 3 (by decide)
  have h4 := hy 4 (by decide)
  have h5 := hy 5 (by decide)
  have h6 := hy 6 (by decide)
  unfold pkF
  rcases (show r = 0 ∨ r = 1 ∨ r = 2 ∨ r = 3 ∨ r = 4 ∨ r = 5 ∨ r = 6 by omega) with q | q | q | q | q | q | q <;> subst q <;> simp only [Nat.reduceMul, Nat.reducePow] <;> omega
theorem ff_get {y : Nat → Nat} (hy : ∀ i, i < 7 → y i ≤ 255) {r : Nat} (hr : r < 7) : (lN (pkF y) >>> ((8 * nI r).toInt64 &&& 63)) &&& 255 = lN (y r) := by
  have h := pkF_lt hy
  rw [ff_shr (ff_sh r hr).1 (by omega), show (255 : Int64) = lN (2 ^ 8 - 1) from rfl, ff_and, Nat.and_two_pow_sub_one_eq_mod, pkF_at hy hr]
theorem pkF_up {y : Nat → Nat} {r : Nat} (hr : r < 7) : pkF (updN y r (y r + 1)) = pkF y + 2 ^ (8 * r) := by
  unfold pkF updN
  rcases (show r = 0 ∨ r = 1 ∨ r = 2 ∨ r = 3 ∨ r = 4 ∨ r = 5 ∨ r = 6 by omega) with q | q | q | q | q | q | q <;> subst q <;> simp <;> omega
theorem ff_add (y : Nat → Nat) {r : Nat} (hr : r < 7) : lN (pkF y) + ((1 : Int64) <<< ((8 * nI r).toInt64 &&& 63)) = lN (pkF (updN y r (y r + 1))) := by
  rw [(ff_sh r hr).2.1, lN_add, pkF_up hr]
theorem ff_cut {k n hi x lo : Nat} (hlo : lo < 2 ^ k) (hx : x < 2 ^ 8) (hhi : hi < 2 ^ n) : (2 ^ k * (2 ^ 8 * hi + x) + lo) &&& (2 ^ k * (2 ^ 8 * (2 ^ n - 1) + 0) + (2 ^ k - 1)) = 2 ^ k * (2 ^ 8 * hi + 0) + lo := by
  have hp := Nat.two_pow_pos k
  have h1 : 2 ^ k - 1 < 2 ^ k := by omega
  apply Nat.eq_of_testBit_eq
  intro j
  rw [Nat.testBit_and, Nat.testBit_two_pow_mul_add _ hlo, Nat.testBit_two_pow_mul_add _ h1, Nat.testBit_two_pow_mul_add _ hlo]
  by_cases hj : j < k
  · rw [if_pos hj, if_pos hj, if_pos hj, Nat.testBit_two_pow_sub_one]
    simp [hj]
  · rw [if_neg hj, if_neg hj, if_neg hj, Nat.testBit_two_pow_mul_add _ hx, Nat.testBit_two_pow_mul_add _ (show 0 < 2 ^ 8 by decide), Nat.testBit_two_pow_mul_add _ (show 0 < 2 ^ 8 by decide)]
    by_cases h8 : j - k < 8
    · rw [if_pos h8, if_pos h8]
      simp
      omega
    · rw [if_neg h8, if_neg h8, Nat.testBit_two_pow_sub_one]
      by_cases hn : j - k - 8 < n
      · simp [hn]
        omega
      · rw [Nat.testBit_lt_two_pow (Nat.lt_of_lt_of_le hhi (Nat.pow_le_pow_right (by decide) (by omega)))]
        simp
theorem ff_clr {y : Nat → Nat} (hy : ∀ i, i < 7 → y i ≤ 255) {r : Nat} (hr : r < 7) : lN (pkF y) &&& (((255 : Int64) <<< ((8 * nI r).toInt64 &&& 63)) ^^^ (-1)) = lN (pkF (updN y r 0)) := by
  have h0 := hy 0 (by decide)
  have h1 := hy 1 (by decide)
  have h2 := hy 2 (by decide)
  have h3 := hy 3 (by decide)
  have h4 := hy 4 (by decide)
  have h5 := hy 5 (by decide)
  have h6 := hy 6 (by decide)
  rw [(ff_sh r hr).2.2, ff_and]
  refine congrArg lN ?_
  have key : ∀ (N M z k hi x lo : Nat), N = 2 ^ k * (2 ^ 8 * hi + x) + lo → M = 2 ^ k * (2 ^ 8 * (2 ^ (56 - k) - 1) + 0) + (2 ^ k - 1) → z = 2 ^ k * (2 ^ 8 * hi + 0) + lo → lo < 2 ^ k → x < 2 ^ 8 → hi < 2 ^ (56 - k) → N &&& M = z := fun N M z k hi x lo a b c d e f => by
    rw [a, b, c]
    exact ff_cut d e f
  rcases (show r = 0 ∨ r = 1 ∨ r = 2 ∨ r = 3 ∨ r = 4 ∨ r = 5 ∨ r = 6 by omega) with q | q | q | q | q | q | q <;> subst q
  · exact key _ _ _ 0 (y 1 + 256 * y 2 + 65536 * y 3 + 16777216 * y 4 + 4294967296 * y 5 + 1099511627776 * y 6) (y 0) 0 (by unfold pkF; omega) (by decide) (by unfold pkF updN; simp <;> omega) (by omega) (by omega) (by simp only [Nat.reduceSub, Nat.reducePow]; omega)
  · exact key _ _ _ 8 (y 2 + 256 * y 3 + 65536 * y 4 + 16777216 * y 5 + 4294967296 * y 6) (y 1) (y 0) (by unfold pkF; omega) (by decide) (by unfold pkF updN; simp <;> omega) (by omega) (by omega) (by simp only [Nat.reduceSub, Nat.reducePow]; omega)
  · exact key _ _ _ 16 (y 3 + 256 * y 4 + 65536 * y 5 + 16777216 * y 6) (y 2) (y 0 + 256 * y 1) (by unfold pkF; omega) (by decide) (by unfold pkF updN; simp <;> omega) (by omega) (by omega) (by simp only [Nat.reduceSub, Nat.reducePow]; omega)
  · exact key _ _ _ 24 (y 4 + 256 * y 5 + 65536 * y 6) (y 3) (y 0 + 256 * y 1 + 65536 * y 2) (by unfold pkF; omega) (by decide) (by unfold pkF updN; simp <;> omega) (by omega) (by omega) (by simp only [Nat.reduceSub, Nat.reducePow]; omega)
  · exact key _ _ _ 32 (y 5 + 256 * y 6) (y 4) (y 0 + 256 * y 1 + 65536 * y 2 + 16777216 * y 3) (by unfold pkF; omega) (by decide) (by unfold pkF updN; simp <;> omega) (by omega) (by omega) (by simp only [Nat.reduceSub, Nat.reducePow]; omega)
  · exact key _ _ _ 40 (y 6) (y 5) (y 0 + 256 * y 1 + 65536 * y 2 + 16777216 * y 3 + 4294967296 * y 4) (by unfold pkF; omega) (by decide) (by unfold pkF updN; simp <;> omega) (by omega) (by omega) (by simp only [Nat.reduceSub, Nat.reducePow]; omega)
  · exact key _ _ _ 48 0 (y 6) (y 0 + 256 * y 1 + 65536 * y 2 + 16777216 * y 3 + 4294967296 * y 4 + 1099511627776 * y 5) (by unfold pkF; omega) (by decide) (by unfold pkF updN; simp <;> omega) (by omega) (by omega) (by decide)
theorem vpL_s {f : Nat → Int64} {k : Nat} {x : Int64} : vp_updL f k x k = x := if_pos rfl
theorem vpL_n {f : Nat → Int64} {k j : Nat} {x : Int64} (h : ¬ j = k) : vp_updL f k x j = f j := if_neg h
