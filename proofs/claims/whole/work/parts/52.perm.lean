/-! orders: the first of the smallest, all orders in their turn -/
def IsFM {α : Type} (f : α → Nat) (L : List α) (x : α) : Prop := ∃ a b, L = a ++ x :: b ∧ (∀ y, y ∈ a → f x < f y) ∧ ∀ y, y ∈ b → f x ≤ f y
section FM
variable {α β : Type} {f : α → Nat} {L : List α} {x y z : α}
theorem IsFM.mem (H : IsFM f L x) : x ∈ L := by
  obtain ⟨a, b, e, -, -⟩ := H
  rw [e]
  exact List.mem_append_right _ List.mem_cons_self
theorem IsFM.min (H : IsFM f L x) : ∀ y, y ∈ L → f x ≤ f y := fun y hy => by
  obtain ⟨a, b, e, h1, h2⟩ := H
  rw [e] at hy
  rcases List.mem_append.mp hy with q | q
  · exact Nat.le_of_lt (h1 y q)
  · rcases List.mem_cons.mp q with q | q
    · rw [q]
      exact Nat.le_refl _
    · exact h2 y q
theorem IsFM.one : IsFM f [x] x := ⟨[], [], rfl, fun y hy => absurd hy List.not_mem_nil, fun y hy => absurd hy List.not_mem_nil⟩
theorem IsFM.snoc_lt (H : IsFM f L x) (h : f y < f x) : IsFM f (L ++ [y]) y := ⟨L, [], rfl, fun z hz => Nat.lt_of_lt_of_le h (H.min z hz), fun y hy => absurd hy List.not_mem_nil⟩
theorem IsFM.snoc_le (H : IsFM f L x) (h : f x ≤ f y) : IsFM f (L ++ [y]) x := by
  obtain ⟨a, b, e, h1, h2⟩ := H
  refine ⟨a, b ++ [y], by rw [e, List.append_assoc]; rfl, h1, fun z hz => ?_⟩
  rcases List.mem_append.mp hz with q | q
  · exact h2 z q
  · rw [List.mem_singleton.mp q]
    exact h
theorem IsFM.uniq (H : IsFM f L x) (G : IsFM f L z) : x = z := by
  have hxz : f x = f z := Nat.le_antisymm (H.min z G.mem) (G.min x H.mem)
  obtain ⟨a, b, e, h1, h2⟩ := H
  obtain ⟨a', b', e', g1, g2⟩ := G
  have hx : L[a.length]? = some x := by rw [e, List.getElem?_append_right (Nat.le_refl _), Nat.sub_self]; rfl
  have hz : L[a'.length]? = some z := by rw [e', List.getElem?_append_right (Nat.le_refl _), Nat.sub_self]; rfl
  rcases Nat.lt_trichotomy a.length a'.length with q | q | q
  · rw [e', List.getElem?_append_left q] at hx
    have := g1 x (List.mem_of_getElem? hx)
    omega
  · rw [q, hz] at hx
    exact (Option.some.inj hx).symm
  · rw [e, List.getElem?_append_left q] at hz
    have := h1 z (List.mem_of_getElem? hz)
    omega
theorem IsFM.map {φ : α → β} {F : β → Nat} {c : Nat} (hF : ∀ q, F (φ q) = c + f q) (H : IsFM f L x) : IsFM F (L.map φ) (φ x) := by
  obtain ⟨a, b, e, h1, h2⟩ := H
  refine ⟨a.map φ, b.map φ, by rw [e]; simp, fun y hy => ?_, fun y hy => ?_⟩
  · obtain ⟨q, hq, rfl⟩ := List.mem_map.mp hy
    have := h1 q hq
    rw [hF, hF]
    omega
  · obtain ⟨q, hq, rfl⟩ := List.mem_map.mp hy
    have := h2 q hq
    rw [hF, hF]
    omega
theorem IsFM.flat {g : Nat → List α} {F : α → Nat} {fn : Nat → Nat} {S : List Nat} {i : Nat} {q : α} (h : ∀ r, r ∈ S → ∃ p, IsFM F (g r) p ∧ F p = fn r) (hx : IsFM fn S i) (hq : IsFM F (g i) q) : IsFM F (S.flatMap g) q := by
  obtain ⟨p, hp, hpe⟩ := h i hx.mem
  have hqe : F q = fn i := by rw [hq.uniq hp]; exact hpe
  obtain ⟨a, b, e, h1, h2⟩ := hx
  obtain ⟨c, d, e', g1, g2⟩ := hq
  refine ⟨a.flatMap g ++ c, d ++ b.flatMap g, ?_, fun y hy => ?_, fun y hy => ?_⟩
  · rw [e, List.flatMap_append, List.flatMap_cons, e']
    simp
  · rcases List.mem_append.mp hy with hy | hy
    · obtain ⟨r, hr, hy⟩ := List.mem_flatMap.mp hy
      obtain ⟨p', hp', hpe'⟩ := h r (by rw [e]; exact List.mem_append_left _ hr)
      have k1 := hp'.min y hy
      have k2 := h1 r hr
      omega
    · exact g1 y hy
  · rcases List.mem_append.mp hy with hy | hy
    · exact g2 y hy
    · obtain ⟨r, hr, hy⟩ := List.mem_flatMap.mp hy
      obtain ⟨p', hp', hpe'⟩ := h r (by rw [e]; exact List.mem_append_right _ (List.mem_cons_of_mem _ hr))
      have k1 := hp'.min y hy
      have k2 := h2 r hr
      omega
end FM
def cst (w : Nat → Nat → Nat) : Nat → List Nat → Nat
  | _, [] => 0
  | j, x :: xs => w j x + cst w x xs
def PLx : Nat → List Nat → List (List Nat)
  | 0, _ => [[]]
  | n + 1, S => S.flatMap (fun r => (PLx n (S.erase r)).map (fun q => r :: q))
theorem PLx_len : ∀ (n : Nat) (S p : List Nat), p ∈ PLx n S → p.length = n
  | 0, S, p, h => by
    rw [List.mem_singleton.mp h]
    rfl
  | n + 1, S, p, h => by
    obtain ⟨r, -, h⟩ := List.mem_flatMap.mp h
    obtain ⟨q, hq, rfl⟩ := List.mem_map.mp h
    show q.length + 1 = n + 1
    rw [PLx_len n _ q hq]
theorem cst_le {w : Nat → Nat → Nat} (hw : ∀ i j, w i j ≤ 280) : ∀ (p : List Nat) (j : Nat), cst w j p ≤ 280 * p.length
  | [], j => Nat.zero_le _
  | x :: xs, j => by
    have h1 := cst_le hw xs x
    have h2 := hw j x
    show w j x + cst w x xs ≤ 280 * (xs.length + 1)
    omega
/-- the members of a subset -/
def mbs (m : Nat) : List Nat := (List.range' 1 5).filter (fun r => decide (wo m r ≠ m))
theorem mbs_wo : ∀ m, m < 32 → ∀ r, r < 6 → r ∈ mbs m → mbs (wo m r) = (mbs m).erase r ∧ wo m r < m := by decide +kernel
theorem mbs_z : ∀ z, z < 6 → mbs (2 ^ z - 1) = List.range' 1 z := by decide +kernel
theorem mbs_lt : ∀ z, z < 6 → ∀ m, m < 2 ^ z → (List.range' 1 z).filter (fun r => decide (wo m r ≠ m)) = mbs m := by decide +kernel
theorem mbs_ne : ∀ m, m < 32 → ¬ m = 0 → ¬ mbs m = [] := by decide +kernel
theorem mbs_len : ∀ m, m < 32 → (mbs m).length ≤ 5 := by decide +kernel
theorem mbs_0 : mbs 0 = [] := by decide
theorem p2_le : ∀ z, z < 6 → 2 ^ z ≤ 32 := by decide
theorem mbs_in {z m r : Nat} (hz : z < 6) (hm : m < 2 ^ z) (hr : r ∈ mbs m) : 1 ≤ r ∧ r ≤ z := by
  rw [← mbs_lt z hz m hm] at hr
  have := List.mem_range'_1.mp (List.mem_filter.mp hr).1
  omega
theorem nbk_FM {st fe : Nat → IF} {j s : Nat} {fn : Nat → Nat} : ∀ k, (∀ r, 1 ≤ r → r ≤ k → wo s r ≠ s → fbF st fe j r s = nI (fn r) ∧ fn r < 2147483647) → (((List.range' 1 k).filter (fun r => decide (wo s r ≠ s)) = [] ∧ nbk st fe j s k = (0, 2147483647)) ∨ (IsFM fn ((List.range' 1 k).filter (fun r => decide (wo s r ≠ s))) (nbk st fe j s k).1 ∧ (nbk st fe j s k).2 = nI (fn (nbk st fe j s k).1)))
  | 0, _ => Or.inl ⟨rfl, rfl⟩
  | k + 1, h => by
    have ih := nbk_FM k (fun r h1 h2 h3 => h r h1 (by omega) h3)
    have e : List.range' 1 (k + 1) = List.range' 1 k ++ [k + 1] := by rw [List.range'_1_concat, Nat.add_comm 1 k]
    rw [e, List.filter_append]
    by_cases hm : wo s (k + 1) ≠ s
    · rw [show [k + 1].filter (fun r => decide (wo s r ≠ s)) = [k + 1] by simp [hm]]
      obtain ⟨hf, hb⟩ := h (k + 1) (by omega) (Nat.le_refl _) hm
      rw [nbk]
      rcases ih with ⟨i1, i2⟩ | ⟨i1, i2⟩
      · rw [i1, i2, if_pos ⟨hm, by rw [hf]; exact (nI_ltI (b := 2147483647) (by omega) (by decide)).mpr hb⟩]
        exact Or.inr ⟨IsFM.one, hf⟩
      · have hin := List.mem_filter.mp i1.mem
        have hrg := List.mem_range'_1.mp hin.1
        obtain ⟨hf2, hb2⟩ := h _ (by omega) (by omega) (of_decide_eq_true hin.2)
        by_cases q : fn (k + 1) < fn (nbk st fe j s k).1
        · rw [if_pos ⟨hm, by rw [hf, i2]; exact (nI_ltI (by omega) (by omega)).mpr q⟩]
          exact Or.inr ⟨i1.snoc_lt q, hf⟩
        · rw [if_neg (fun z => q (by have z2 := z.2; rw [hf, i2] at z2; exact (nI_ltI (by omega) (by omega)).mp z2))]
          exact Or.inr ⟨i1.snoc_le (Nat.not_lt.mp q), i2⟩
    · rw [show [k + 1].filter (fun r => decide (wo s r ≠ s)) = [] by simp [Decidable.not_not.mp hm], List.append_nil, nbk, if_neg (fun z => hm z.1)]
      exact ih
theorem ipF_ne {st : Nat → IF} {z m r : Nat} (h : ¬ r = m) : ∀ (k : Nat) (T : Nat → IF), ipF st z m k T r = T r
  | 0, T => rfl
  | k + 1, T => by
    rw [ipF, va_up, if_neg h]
    exact ipF_ne h k T
theorem ipF_at {st : Nat → IF} {z m j : Nat} : ∀ (k : Nat) (T : Nat → IF), j < k → ipF st z m k T m j = fbF st (ipF st z m j T) j (nbk st (ipF st z m j T) j m z).1 m
  | 0, T, h => absurd h (Nat.not_lt_zero _)
  | k + 1, T, h => by
    rw [ipF, va_up, if_pos rfl]
    by_cases e : j = k
    · subst e
      exact pk_us
    · rw [pk_un e]
      exact ipF_at k T (by omega)
def OPc (w : Nat → Nat → Nat) (m j : Nat) (x : Int32) : Prop := ∃ p, IsFM (cst w j) (PLx (mbs m).length (mbs m)) p ∧ x = nI (cst w j p)
section OPT
variable {st T : Nat → IF} {z : Nat} {w : Nat → Nat → Nat}
theorem OP_step (hz : z < 6) (hw : ∀ i j, w i j ≤ 280) (hst : ∀ i j, i ≤ z → j ≤ z → st i j = nI (w i j)) {U : Nat → IF} {m j : Nat} (hm : m < 2 ^ z) (hm0 : ¬ m = 0) (hj : j ≤ z) (hU : ∀ r, r ∈ mbs m → OPc w (wo m r) r (U (wo m r) r)) : ∃ p', (nbk st U j m z).1 ∈ mbs m ∧ IsFM (cst w (nbk st U j m z).1) (PLx (mbs (wo m (nbk st U j m z).1)).length (mbs (wo m (nbk st U j m z).1))) p' ∧ IsFM (cst w j) (PLx (mbs m).length (mbs m)) ((nbk st U j m z).1 :: p') ∧ fbF st U j (nbk st U j m z).1 m = nI (cst w j ((nbk st U j m z).1 :: p')) := by
  have hm32 := Nat.lt_of_lt_of_le hm (p2_le z hz)
  have hb : ∀ r, r ∈ mbs m → ∃ p, IsFM (cst w r) (PLx (mbs (wo m r)).length (mbs (wo m r))) p ∧ U (wo m r) r = nI (cst w r p) ∧ cst w r p ≤ 1400 := fun r hr => by
    obtain ⟨p, h1, h2⟩ := hU r hr
    refine ⟨p, h1, h2, ?_⟩
    have h3 := cst_le hw p r
    rw [PLx_len _ _ p h1.mem] at h3
    have hin := mbs_in hz hm hr
    have h4 := mbs_len (wo m r) (Nat.lt_trans (mbs_wo m hm32 r (by omega) hr).2 hm32)
    omega
  have hfn : ∀ r, 1 ≤ r → r ≤ z → wo m r ≠ m → fbF st U j r m = nI (w j r + (U (wo m r) r).toNatClampNeg) ∧ w j r + (U (wo m r) r).toNatClampNeg < 2147483647 := fun r h1 h2 h3 => by
    have hr : r ∈ mbs m := by rw [← mbs_lt z hz m hm]; exact List.mem_filter.mpr ⟨List.mem_range'_1.mpr (by omega), decide_eq_true h3⟩
    obtain ⟨p, -, h5, h6⟩ := hb r hr
    have h7 := hw j r
    rw [fbF, hst j r hj h2, h5, nI_clamp (by omega), nI_add]
    exact ⟨rfl, by omega⟩
  have hk := nbk_FM (st := st) (fe := U) (j := j) (s := m) (fn := fun r => w j r + (U (wo m r) r).toNatClampNeg) z hfn
  rw [mbs_lt z hz m hm] at hk
  rcases hk with ⟨h1, -⟩ | ⟨h1, h2⟩
  · exact absurd h1 (mbs_ne m hm32 hm0)
  · generalize (nbk st U j m z).1 = x at h1 h2 ⊢
    have hx := h1.mem
    obtain ⟨p', h3, h4, h5⟩ := hb x hx
    obtain ⟨n', hn⟩ : ∃ n', (mbs m).length = n' + 1 := ⟨(mbs m).length - 1, by have : 0 < (mbs m).length := List.length_pos_of_mem hx; omega⟩
    have hl : ∀ r, r ∈ mbs m → mbs (wo m r) = (mbs m).erase r ∧ (mbs (wo m r)).length = n' := fun r hr => by
      have hin := mbs_in hz hm hr
      have e := (mbs_wo m hm32 r (by omega) hr).1
      refine ⟨e, ?_⟩
      rw [e, List.length_erase_of_mem hr]
      omega
    have hmap : ∀ r, r ∈ mbs m → ∀ p, IsFM (cst w r) (PLx (mbs (wo m r)).length (mbs (wo m r))) p → IsFM (cst w j) ((PLx n' ((mbs m).erase r)).map (fun q => r :: q)) (r :: p) := fun r hr p hp => by
      obtain ⟨e1, e2⟩ := hl r hr
      rw [e2, e1] at hp
      exact hp.map (c := w j r) (fun q => rfl)
    refine ⟨p', hx, h3, ?_, ?_⟩
    · rw [hn]
      refine IsFM.flat (fn := fun r => w j r + (U (wo m r) r).toNatClampNeg) (fun r hr => ?_) h1 (hmap x hx p' h3)
      obtain ⟨p, q1, q2, q3⟩ := hb r hr
      refine ⟨r :: p, hmap r hr p q1, ?_⟩
      show w j r + cst w r p = _
      rw [q2, nI_clamp (by omega)]
    · have hin := mbs_in hz hm hx
      rw [fbF, hst j x hj hin.2, h4, nI_add]
      rfl
theorem FEt_OP (hz : z < 6) (hw : ∀ i j, w i j ≤ 280) (hst : ∀ i j, i ≤ z → j ≤ z → st i j = nI (w i j)) (hT : ∀ j, j < 6 → T 0 j = 0) : ∀ M, M < 2 ^ z → ∀ m, m ≤ M → ∀ j, j ≤ z → OPc w m j (FEt st z M T m j)
  | 0, hM, m, hm, j, hj => by
    obtain rfl : m = 0 := Nat.le_zero.mp hm
    refine ⟨[], ?_, ?_⟩
    · rw [mbs_0]
      exact IsFM.one
    · exact hT j (by omega)
  | M + 1, hM, m, hm, j, hj => by
    have ih := FEt_OP hz hw hst hT M (by omega)
    rw [FEt]
    by_cases e : m = M + 1
    · subst e
      rw [ipF_at (z + 1) _ (by omega)]
      obtain ⟨p', h1, h2, h3, h4⟩ := OP_step hz hw hst (U := ipF st z (M + 1) j (FEt st z M T)) hM (by omega) hj (fun r hr => by
        have hin := mbs_in hz hM hr
        have hlt := (mbs_wo (M + 1) (Nat.lt_of_lt_of_le hM (p2_le z hz)) r (by omega) hr).2
        rw [ipF_ne (by omega)]
        exact ih _ (by omega) r hin.2)
      exact ⟨_, h3, h4⟩
    · rw [ipF_ne e]
      exact ih m (by omega) j hj
theorem maF_path (hz : z < 6) (hw : ∀ i j, w i j ≤ 280) (hst : ∀ i j, i ≤ z → j ≤ z → st i j = nI (w i j)) (hT : ∀ j, j < 6 → T 0 j = 0) {p0 : List Nat} (hp : IsFM (cst w 0) (PLx z (List.range' 1 z)) p0) : ∀ k, k ≤ z → (maF st (FEt st z (2 ^ z - 1) T) z k).1 < 2 ^ z ∧ (maF st (FEt st z (2 ^ z - 1) T) z k).2 ≤ z ∧ IsFM (cst w (maF st (FEt st z (2 ^ z - 1) T) z k).2) (PLx (mbs (maF st (FEt st z (2 ^ z - 1) T) z k).1).length (mbs (maF st (FEt st z (2 ^ z - 1) T) z k).1)) (p0.drop k) ∧ (¬ k = 0 → (maF st (FEt st z (2 ^ z - 1) T) z k).2 = p0.getD (k - 1) 0)
  | 0, _ => by
    have h2 : 0 < 2 ^ z := Nat.pow_pos (by decide)
    refine ⟨by show 2 ^ z - 1 < 2 ^ z; omega, Nat.zero_le _, ?_, fun q => absurd rfl q⟩
    show IsFM (cst w 0) (PLx (mbs (2 ^ z - 1)).length (mbs (2 ^ z - 1))) p0
    rw [mbs_z z hz, List.length_range']
    exact hp
  | k + 1, hk => by
    obtain ⟨h1, h2, h3, -⟩ := maF_path hz hw hst hT hp k (by omega)
    have h20 : 0 < 2 ^ z := Nat.pow_pos (by decide)
    have hl0 := PLx_len _ _ _ hp.mem
    have hl := PLx_len _ _ _ h3.mem
    rw [List.length_drop, hl0] at hl
    rw [maF]
    generalize maF st (FEt st z (2 ^ z - 1) T) z k = q at h1 h2 h3 hl ⊢
    have hm0 : ¬ q.1 = 0 := fun e => by
      rw [e, mbs_0] at hl
      have : z - k = 0 := hl
      omega
    obtain ⟨p', g1, g2, g3, g4⟩ := OP_step hz hw hst (U := FEt st z (2 ^ z - 1) T) h1 hm0 h2 (fun r hr => by
      have hin := mbs_in hz h1 hr
      have hlt := (mbs_wo q.1 (Nat.lt_of_lt_of_le h1 (p2_le z hz)) r (by omega) hr).2
      exact FEt_OP hz hw hst hT (2 ^ z - 1) (by omega) _ (by omega) r hin.2)
    have hin := mbs_in hz h1 g1
    have hlt := (mbs_wo q.1 (Nat.lt_of_lt_of_le h1 (p2_le z hz)) _ (by omega) g1).2
    have e := h3.uniq g3
    refine ⟨by omega, hin.2, ?_, fun _ => ?_⟩
    · have e2 : p0.drop (k + 1) = p' := by rw [← List.drop_drop, e]; rfl
      rw [e2]
      exact g2
    · have e3 : (p0.drop k)[0]? = p0[k]? := by rw [List.getElem?_drop, Nat.add_zero]
      rw [e] at e3
      rw [Nat.add_sub_cancel, List.getD_eq_getElem?_getD, ← e3]
      rfl
theorem FE_min (hz : z < 6) (hw : ∀ i j, w i j ≤ 280) (hst : ∀ i j, i ≤ z → j ≤ z → st i j = nI (w i j)) (hT : ∀ j, j < 6 → T 0 j = 0) {p0 : List Nat} (hp : IsFM (cst w 0) (PLx z (List.range' 1 z)) p0) : FEt st z (2 ^ z - 1) T (2 ^ z - 1) 0 = nI (cst w 0 p0) := by
  have h20 : 0 < 2 ^ z := Nat.pow_pos (by decide)
  obtain ⟨p, h1, h2⟩ := FEt_OP hz hw hst hT (2 ^ z - 1) (by omega) (2 ^ z - 1) (Nat.le_refl _) 0 (Nat.zero_le _)
  rw [mbs_z z hz, List.length_range'] at h1
  rw [h2, h1.uniq hp]
end OPT
/-! the next order -/
def fIn (p : Nat → Nat) : Nat → Nat
  | 0 => 0
  | a + 1 => if p (a + 1) < p a then fIn p a else a + 1
def fJn (p : Nat → Nat) (i : Nat) : Nat → Nat
  | 0 => 0
  | j + 1 => if p (j + 1) < p i then fJn p i j else j + 1
def swn (p : Nat → Nat) (i j : Nat) : Nat → Nat := updN (updN p i (p j)) j (p i)
def rvn : Nat → (Nat → Nat) → Nat → Nat → Nat → Nat
  | 0, p, _, _ => p
  | n + 1, p, lo, hi => if lo < hi then rvn n (swn p lo hi) (lo + 1) (hi - 1) else p
def nxL (z : Nat) (L : List Nat) : Option (List Nat) :=
  if fIn (fun i => L.getD i 0) (z - 1) = 0 then none else some ((List.range z).map (rvn 5 (swn (fun i => L.getD i 0) (fIn (fun i => L.getD i 0) (z - 1) - 1) (fJn (fun i => L.getD i 0) (fIn (fun i => L.getD i 0) (z - 1) - 1) (z - 1))) (fIn (fun i => L.getD i 0) (z - 1)) (z - 1)))
def chk (z : Nat) : List (List Nat) → Bool
  | [] => true
  | [L] => decide (nxL z L = none)
  | L :: L2 :: r => decide (nxL z L = some L2) && chk z (L2 :: r)
theorem chk_ok : ∀ z, z < 6 → 1 ≤ z → chk z (PLx z (List.range' 1 z)) = true := by decide +kernel
theorem chk_at {z : Nat} : ∀ (pre : List (List Nat)) (L : List Nat) (post : List (List Nat)), chk z (pre ++ L :: post) = true → nxL z L = post.head?
  | [], L, [], h => of_decide_eq_true h
  | [], L, L2 :: r, h => of_decide_eq_true (Bool.and_eq_true _ _ ▸ h : _ ∧ _).1
  | [L0], L, post, h => chk_at [] L post (Bool.and_eq_true _ _ ▸ h : _ ∧ _).2
  | L0 :: L1 :: pre, L, post, h => chk_at (L1 :: pre) L post (Bool.and_eq_true _ _ ▸ h : _ ∧ _).2
def sc (w : Nat → Nat → Nat) (j : Nat) (p : Nat → Nat) : Nat → Nat
  | 0 => 0
  | k + 1 => sc w j p k + w (if k = 0 then j else p (k - 1)) (p k)
theorem sc_shift (w : Nat → Nat → Nat) (j : Nat) (p : Nat → Nat) : ∀ n, sc w j p (n + 1) = w j (p 0) + sc w (p 0) (fun i => p (i + 1)) n
  | 0 => by
    show 0 + w j (p 0) = w j (p 0) + 0
    omega
  | n + 1 => by
    have ih := sc_shift w j p n
    show sc w j p (n + 1) + w (if n + 1 = 0 then j else p (n + 1 - 1)) (p (n + 1)) = w j (p 0) + (sc w (p 0) (fun i => p (i + 1)) n + w (if n = 0 then p 0 else p (n - 1 + 1)) (p (n + 1)))
    rw [ih, if_neg (Nat.succ_ne_zero n), Nat.add_sub_cancel, show (if n = 0 then p 0 else p (n - 1 + 1)) = p n by split; (rename_i q; rw [q]); (rename_i q; rw [show n - 1 + 1 = n by omega])]
    omega
theorem sc_cst (w : Nat → Nat → Nat) : ∀ (L : List Nat) (j : Nat), sc w j (fun i => L.getD i 0) L.length = cst w j L
  | [], j => rfl
  | x :: xs, j => by
    show sc w j (fun i => (x :: xs).getD i 0) (xs.length + 1) = w j x + cst w x xs
    rw [sc_shift, ← sc_cst w xs x]
    rfl
