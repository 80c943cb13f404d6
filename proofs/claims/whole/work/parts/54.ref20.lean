/-! the reference: the best order -/
theorem mk_bit8 : ∀ k, k < 256 → ∀ i, i < 8 → (nI k >>> (nI i &&& 31)) &&& 1 = bI (¬ nI k &&& mk i = 0) := by decide +kernel
theorem so_ne : ∀ m, m < 256 → ¬ m = 0 → ¬ (memL (nI m) 8).length = 0 := by decide +kernel
theorem memL_ge {M : Int32} {K : Nat} (h : ∀ i, i < 8 → ¬ M &&& mk i = 0 → i < K) : ∀ d, K + d ≤ 8 → memL M (K + d) = memL M K
  | 0, _ => rfl
  | d + 1, hd => by
    rw [← Nat.add_assoc, memL_succ, if_pos (Decidable.byContradiction (fun q => by have := h (K + d) (by omega) q; omega))]
    exact memL_ge h d (by omega)
theorem memL_lt (M : Int32) (i : Nat) : (memL M i).Pairwise (· < ·) := (List.pairwise_lt_range (n := i)).filter _
theorem memL_in {M : Int32} {i x : Nat} (h : x ∈ memL M i) : x < i ∧ ¬ M &&& mk x = 0 := by
  obtain ⟨h1, h2⟩ := List.mem_filter.mp h
  exact ⟨List.mem_range.mp h1, of_decide_eq_true h2⟩
theorem getD_lt {l : List Nat} (h : l.Pairwise (· < ·)) {i j : Nat} (hi : i < l.length) (hj : j < l.length) : l.getD i 0 < l.getD j 0 ↔ i < j := by
  have key : ∀ i j, i < l.length → j < l.length → i < j → l.getD i 0 < l.getD j 0 := fun i j hi hj hij => by
    rw [List.getD_eq_getElem?_getD, List.getD_eq_getElem?_getD, List.getElem?_eq_getElem hi, List.getElem?_eq_getElem hj]
    exact List.pairwise_iff_getElem.mp h i j hi hj hij
  refine ⟨fun q => ?_, fun q => key i j hi hj q⟩
  rcases Nat.lt_trichotomy i j with z | z | z
  · exact z
  · rw [z] at q
    exact absurd q (Nat.lt_irrefl _)
  · have := key j i hj hi z
    omega
theorem PLx_sub : ∀ (n : Nat) (S p : List Nat), p ∈ PLx n S → ∀ x, x ∈ p → x ∈ S
  | 0, S, p, h, x, hx => by
    rw [List.mem_singleton.mp h] at hx
    exact absurd hx List.not_mem_nil
  | n + 1, S, p, h, x, hx => by
    obtain ⟨r, hr, h⟩ := List.mem_flatMap.mp h
    obtain ⟨q, hq, rfl⟩ := List.mem_map.mp h
    rcases List.mem_cons.mp hx with e | e
    · rw [e]
      exact hr
    · exact List.mem_of_mem_erase (PLx_sub n _ q hq x e)
theorem PLx_first : ∀ z, z < 6 → (PLx z (List.range' 1 z)).head? = some (List.range' 1 z) := by decide +kernel
theorem PLx_in {z : Nat} {L : List Nat} (h : L ∈ PLx z (List.range' 1 z)) {i : Nat} (hi : i < z) : 1 ≤ L.getD i 0 ∧ L.getD i 0 ≤ z := by
  have hl := PLx_len _ _ _ h
  rw [List.getD_eq_getElem?_getD, List.getElem?_eq_getElem (by omega)]
  have := List.mem_range'_1.mp (PLx_sub _ _ _ h _ (List.getElem_mem (by omega : i < L.length)))
  show 1 ≤ L[i] ∧ L[i] ≤ z
  omega
section MV
variable {mv p : Nat → Nat} {z : Nat}
theorem fIn_mv (hm : ∀ i j, i < z → j < z → (mv (p i) < mv (p j) ↔ p i < p j)) : ∀ a, a < z → fIn (fun i => mv (p i)) a = fIn p a
  | 0, _ => rfl
  | a + 1, h => by
    have ih := fIn_mv hm a (by omega)
    have e := hm (a + 1) a h (by omega)
    show (if mv (p (a + 1)) < mv (p a) then fIn (fun i => mv (p i)) a else a + 1) = if p (a + 1) < p a then fIn p a else a + 1
    by_cases q : p (a + 1) < p a
    · rw [if_pos (e.mpr q), if_pos q, ih]
    · rw [if_neg (fun r => q (e.mp r)), if_neg q]
theorem fJn_mv (hm : ∀ i j, i < z → j < z → (mv (p i) < mv (p j) ↔ p i < p j)) {i : Nat} (hi : i < z) : ∀ j, j < z → fJn (fun i => mv (p i)) i j = fJn p i j
  | 0, _ => rfl
  | j + 1, h => by
    have ih := fJn_mv hm hi j (by omega)
    have e := hm (j + 1) i h hi
    show (if mv (p (j + 1)) < mv (p i) then fJn (fun i => mv (p i)) i j else j + 1) = if p (j + 1) < p i then fJn p i j else j + 1
    by_cases q : p (j + 1) < p i
    · rw [if_pos (e.mpr q), if_pos q, ih]
    · rw [if_neg (fun r => q (e.mp r)), if_neg q]
theorem swn_mv (mv p : Nat → Nat) (i j : Nat) : swn (fun k => mv (p k)) i j = fun k => mv (swn p i j k) := by
  funext k
  unfold swn updN
  split
  · rfl
  · split <;> rfl
theorem rvn_mv (mv : Nat → Nat) : ∀ (n : Nat) (p : Nat → Nat) (lo hi : Nat), rvn n (fun k => mv (p k)) lo hi = fun k => mv (rvn n p lo hi k)
  | 0, p, lo, hi => rfl
  | n + 1, p, lo, hi => by
    by_cases q : lo < hi
    · rw [show rvn (n + 1) (fun k => mv (p k)) lo hi = rvn n (swn (fun k => mv (p k)) lo hi) (lo + 1) (hi - 1) from if_pos q, swn_mv, rvn_mv mv n (swn p lo hi) _ _, show rvn (n + 1) p lo hi = rvn n (swn p lo hi) (lo + 1) (hi - 1) from if_pos q]
    · rw [show rvn (n + 1) (fun k => mv (p k)) lo hi = (fun k => mv (p k)) from if_neg q, show rvn (n + 1) p lo hi = p from if_neg q]
theorem nx_none {L : List Nat} (hz : 1 ≤ z) (hm : ∀ i j, i < z → j < z → (mv (L.getD i 0) < mv (L.getD j 0) ↔ L.getD i 0 < L.getD j 0)) (h : nxL z L = none) : fIn (fun i => mv (L.getD i 0)) (z - 1) = 0 := by
  rw [fIn_mv hm (z - 1) (by omega)]
  unfold nxL at h
  split at h
  · assumption
  · cases h
theorem nx_some {L L2 : List Nat} (hz : 1 ≤ z) (hm : ∀ i j, i < z → j < z → (mv (L.getD i 0) < mv (L.getD j 0) ↔ L.getD i 0 < L.getD j 0)) (h : nxL z L = some L2) : ¬ fIn (fun i => mv (L.getD i 0)) (z - 1) = 0 ∧ ∀ i, i < z → rvn 5 (swn (fun i => mv (L.getD i 0)) (fIn (fun i => mv (L.getD i 0)) (z - 1) - 1) (fJn (fun i => mv (L.getD i 0)) (fIn (fun i => mv (L.getD i 0)) (z - 1) - 1) (z - 1))) (fIn (fun i => mv (L.getD i 0)) (z - 1)) (z - 1) i = mv (L2.getD i 0) := by
  have hi := fIn_in (fun i => L.getD i 0) (z - 1)
  rw [fIn_mv hm (z - 1) (by omega), fJn_mv hm (by omega) (z - 1) (by omega)]
  unfold nxL at h
  split at h
  · cases h
  · rename_i q
    refine ⟨q, fun i hi => ?_⟩
    rw [swn_mv mv (fun i => L.getD i 0), rvn_mv]
    rw [← Option.some.inj h, List.getD_eq_getElem?_getD, List.getElem?_map, List.getElem?_range hi]
    rfl
end MV
theorem df_in {v : PV} {p o : IF} (hp : ∀ c, c < 40 → B7 (p c)) (ho : ∀ c, c < 40 → B7 (o c)) : ∃ j, j ≤ 280 ∧ dfF v p o = nI j :=
  sumI_le 40 (fun c hc => (((hp c hc).xor (ho c hc)).and _).bc)
section REF20
variable {h : HP} {y : Nat} {B : FV} {W P o : Nat} {s : IF} {ps ty sp om : Nat}
theorem HN.omt (H : HN h y s ps ty sp om) (om' : Nat) : HN (hset h y (oM y ps ty sp om')) y s ps ty sp om' := ⟨hset_eq _ _ _, (hset_ne _ _ (by omega)).trans H.2⟩
theorem tX10_bestOrder (l : Launch) (E : EV) (n : Nat) (H : HR h y B W P o) (M x : Int32) (me : IF) (pi st T : Nat → IF) (hg : (soF (BS B) M ∧ 0 ≤ x ∧ x ≤ 5) ∧ x ≤ bcF M → GA M B.1 W 8 me pi ∧ (∀ i j, i ≤ (memL M 8).length → j ≤ (memL M 8).length → st i j = dfF B.1 (pi i) (pi j)) ∧ ∀ j, j < 6 → T 0 j = 0) : MX10_bestOrder l E n h [.ref y, .int M, .int x] (PL y h B W P o (fOrder B M x me st T)) := by
  have e := H
  obtain ⟨s, pa, sp, om, g1, g2, g3, g4, g5, g6, g7⟩ := H
  obtain ⟨e0, e1⟩ := id g1
  have r3 : s 4 = nI B.1.2.2.1.2.2.2.2 := g5.1.2.2.1
  have hS := g5.2.1.2.2.1
  have hK8 : B.1.2.2.1.2.2.2.2 ≤ 8 := hS.1
  by_cases hv : soF (BS B) M ∧ 0 ≤ x ∧ x ≤ 5
  · obtain ⟨m, hm, rfl, hm256⟩ := so_ex (S := BS B) hK8 hv.1
    obtain ⟨i1, i2, i3⟩ := so_in (S := BS B) hK8 hv.1
    have hm0 : ¬ m = 0 := fun q => absurd hv.1.1 (by rw [q]; decide)
    have hz1 : 1 ≤ (memL (nI m) 8).length := Nat.one_le_iff_ne_zero.mpr (so_ne m hm256 hm0)
    obtain ⟨k, hk6, rfl⟩ := rng 6 (by decide) hv.2.1 (Int32.lt_of_le_of_lt hv.2.2 (by decide))
    have hkc : (nI k).toNatClampNeg = k := nI_clamp (by omega)
    have hmk : memL (nI m) B.1.2.2.1.2.2.2.2 = memL (nI m) 8 := by
      have q := memL_ge (M := nI m) (K := B.1.2.2.1.2.2.2.2) i1 (8 - B.1.2.2.1.2.2.2.2) (by omega)
      rw [show B.1.2.2.1.2.2.2.2 + (8 - B.1.2.2.1.2.2.2.2) = 8 by omega] at q
      exact q.symm
    have hmv : ∀ i, i < (memL (nI m) 8).length → (memL (nI m) 8).getD i 0 < B.1.2.2.1.2.2.2.2 := fun i hi => by
      rw [List.getD_eq_getElem?_getD, List.getElem?_eq_getElem hi]
      have q := memL_in (List.getElem_mem hi)
      exact i1 _ q.1 q.2
    rw [fOrder, if_pos hv, hkc, i3]
    rw [i3] at hg
    obtain ⟨mv, hmvd⟩ : ∃ mv : Nat → Nat, ∀ r, mv r = (memL (nI m) 8).getD (r - 1) 0 := ⟨_, fun _ => rfl⟩
    obtain ⟨pj, hpj0, hpj1⟩ : ∃ pj : Nat → IF, pj 0 = B.1.1.2.1 ∧ ∀ r, 1 ≤ r → pj r = pF W B.1.2.2.1 (mv r) 0 := ⟨fun r => if r = 0 then B.1.1.2.1 else pF W B.1.2.2.1 (mv r) 0, if_pos rfl, fun r hr => if_neg (by omega)⟩
    have hpj7 : ∀ r c, c < 40 → B7 (pj r c) := fun r c hc => by
      by_cases q : r = 0
      · rw [q, hpj0]
        exact (g5.2.1.2.2.2.2.2 c hc).1
      · rw [hpj1 r (by omega)]
        exact pF_B7 g5.2.2.1 _ _ _ _
    obtain ⟨w, hw1, hw2⟩ : ∃ w : Nat → Nat → Nat, (∀ i j, w i j ≤ 280) ∧ ∀ i j, dfF B.1 (pj i) (pj j) = nI (w i j) := by
      refine ⟨fun i j => (df_in (v := B.1) (hpj7 i) (hpj7 j)).choose, fun i j => (df_in (v := B.1) (hpj7 i) (hpj7 j)).choose_spec.1, fun i j => (df_in (v := B.1) (hpj7 i) (hpj7 j)).choose_spec.2⟩
    have hmono : ∀ L, L ∈ PLx (memL (nI m) 8).length (List.range' 1 (memL (nI m) 8).length) → ∀ i j, i < (memL (nI m) 8).length → j < (memL (nI m) 8).length → (mv (L.getD i 0) < mv (L.getD j 0) ↔ L.getD i 0 < L.getD j 0) := fun L hL i j hi hj => by
      have q1 := PLx_in hL hi
      have q2 := PLx_in hL hj
      rw [hmvd, hmvd, getD_lt (memL_lt _ _) (by omega) (by omega)]
      omega
    have hmvK : ∀ r, 1 ≤ r → r ≤ (memL (nI m) 8).length → mv r < B.1.2.2.1.2.2.2.2 := fun r h1 h2 => by
      rw [hmvd]
      exact hmv _ (by omega)
    have hans : ∀ b, IsFM (cst w 0) (PLx (memL (nI m) 8).length (List.range' 1 (memL (nI m) 8).length)) b → (if nI k ≤ nI (memL (nI m) 8).length then (if nI k = 0 then FEt st (memL (nI m) 8).length (2 ^ (memL (nI m) 8).length - 1) T (2 ^ (memL (nI m) 8).length - 1) 0 else me (maF st (FEt st (memL (nI m) 8).length (2 ^ (memL (nI m) 8).length - 1) T) (memL (nI m) 8).length k).2) else -1009) = (if k ≤ (memL (nI m) 8).length then (if k = 0 then nI (cst w 0 b) else nI (mv (b.getD (k - 1) 0))) else -1009) := fun b hb => by
      by_cases q : k ≤ (memL (nI m) 8).length
      · obtain ⟨⟨ga1, ga2⟩, ga3, ga4⟩ := hg ⟨hv, (nI_leI (by omega) (by omega)).mpr q⟩
        have hpi : ∀ i, i ≤ (memL (nI m) 8).length → pi i = pj i := fun i hi => by
          by_cases z : i = 0
          · rw [z, ga2, hpj0]
          · obtain ⟨i', rfl⟩ : ∃ i', i = i' + 1 := ⟨i - 1, by omega⟩
            rw [(ga1 i' (by omega)).2, hpj1 _ (by omega), hmvd]
            rfl
        have hst : ∀ i j, i ≤ (memL (nI m) 8).length → j ≤ (memL (nI m) 8).length → st i j = nI (w i j) := fun i j hi hj => by rw [ga3 i j hi hj, hpi i hi, hpi j hj, hw2]
        rw [if_pos q, if_pos ((nI_leI (by omega) (by omega)).mpr q)]
        by_cases z : k = 0
        · rw [if_pos z, if_pos (by rw [z]; rfl)]
          exact FE_min (by omega) hw1 hst ga4 hb
        · have z2 : ¬ nI k = 0 := fun u => z ((nI_eq (a := k) (b := 0) (by omega) (by decide)).mp u)
          rw [if_neg z, if_neg z2, (maF_path (by omega) hw1 hst ga4 hb k q).2.2.2 z]
          have hin := PLx_in hb.mem (i := k - 1) (by omega)
          obtain ⟨r, hr⟩ : ∃ r, b.getD (k - 1) 0 = r + 1 := ⟨b.getD (k - 1) 0 - 1, by omega⟩
          rw [hr] at hin ⊢
          rw [(ga1 r (by omega)).1, hmvd]
          rfl
      · rw [if_neg q, if_neg (fun u => q ((nI_leI (by omega) (by omega)).mp u))]
    generalize (if nI k ≤ nI (memL (nI m) 8).length then (if nI k = 0 then FEt st (memL (nI m) 8).length (2 ^ (memL (nI m) 8).length - 1) T (2 ^ (memL (nI m) 8).length - 1) 0 else me (maF st (FEt st (memL (nI m) 8).length (2 ^ (memL (nI m) 8).length - 1) T) (memL (nI m) 8).length k).2) else -1009) = ans at hans ⊢
    clear hg
    refine AM.intro mf_X10_bestOrder (by simp [Value.category]) (Nat.le_of_ble_eq_true rfl) (fun X hl hE hnm hX => ?_)
    subst hl
    subst hE
    show AW X _ _ 0 0 0 [some (.ref y), some (.int (nI m)), some (.int (nI k)), none, none, none, none] []
    have main2 : ∀ (h1 : HP) (f : IF) (x3 x4 x5 x6 : Option Value), HN h1 y s B.2.1.length B.2.2.2 sp (memL (nI m) 8).length → h1 (y + 9) = some (cI 5 f) → (∀ i, i < (memL (nI m) 8).length → f i = nI ((memL (nI m) 8).getD i 0)) → (∀ q, ¬ q = y → ¬ q = y + 9 → h1 q = h q) → AW X n h1 0 0 89 [some (.ref y), some (.int (nI m)), some (.int (nI k)), x3, x4, x5, x6] [] := by
      intro h1 f x3 x4 x5 x6 g hf hfm ag1
      obtain ⟨⟨f1, j1⟩, ⟨f2, j2⟩, ⟨f3, j3⟩, ⟨f4, j4⟩, ⟨f5, j5⟩, ⟨f6, j6⟩, ⟨f7, j7⟩, ⟨f8, j8⟩, ⟨f9, j9⟩⟩ := g2
      have e0 := g.1
      have main3 : ∀ (h2 : HP) (ff fb : IF), AGF y h1 h2 → (∃ f, h2 (y + 6) = some (cI 40 f)) → (∃ f, h2 (y + 7) = some (cI 40 f)) → h2 (y + 11) = some (cI 8 ff) → h2 (y + 12) = some (cI 64 fb) → (∀ a, a < B.1.2.2.1.2.2.2.2 → ff a = dfF B.1 (pF W B.1.2.2.1 a 0) B.1.1.2.1) → (∀ a b, a < B.1.2.2.1.2.2.2.2 → b < B.1.2.2.1.2.2.2.2 → fb (8 * a + b) = dfF B.1 (pF W B.1.2.2.1 a 0) (pF W B.1.2.2.1 b 0)) → AW X n h2 0 0 93 [some (.ref y), some (.int (nI m)), some (.int (nI k)), x3, x4, x5, x6] [] := by
        intro h2 ff fb ag2 k6 k7 k11 k12 kf kb
        have hfull : ∀ hh f bo, (∀ q, ¬ q = y + 9 → ¬ q = y + 10 → hh q = h2 q) → hh (y + 9) = some (cI 5 f) → hh (y + 10) = some (cI 5 bo) → HN hh y s B.2.1.length B.2.2.2 sp (memL (nI m) 8).length ∧ HR hh y B W P o ∧ Sm y (y + 13) h hh := fun hh f bo ag3 q9 q10 => by
          have to2 : ∀ q, ¬ q = y + 9 → ¬ q = y + 10 → ¬ q = y + 6 → ¬ q = y + 7 → ¬ q = y + 11 → ¬ q = y + 12 → hh q = h1 q := fun q a1 a2 a3 a4 a5 a6 => (ag3 q a1 a2).trans (ag2 q a3 a4 a5 a6)
          have hn : HN hh y s B.2.1.length B.2.2.2 sp (memL (nI m) 8).length := ⟨(to2 _ (by omega) (by omega) (by omega) (by omega) (by omega) (by omega)).trans g.1, (to2 _ (by omega) (by omega) (by omega) (by omega) (by omega) (by omega)).trans g.2⟩
          have to0 : ∀ q, ¬ q = y → ¬ q = y + 9 → ¬ q = y + 10 → ¬ q = y + 6 → ¬ q = y + 7 → ¬ q = y + 11 → ¬ q = y + 12 → hh q = h q := fun q a0 a1 a2 a3 a4 a5 a6 => (to2 q a1 a2 a3 a4 a5 a6).trans (ag1 q a0 a1)
          refine ⟨hn, ⟨s, pa, sp, _, hn, ⟨k6.imp fun _ u => (ag3 _ (by omega) (by omega)).trans u, k7.imp fun _ u => (ag3 _ (by omega) (by omega)).trans u, ⟨f3, (to0 _ (by omega) (by omega) (by omega) (by omega) (by omega) (by omega) (by omega)).trans j3⟩, ⟨f, q9⟩, ⟨bo, q10⟩, ⟨ff, (ag3 _ (by omega) (by omega)).trans k11⟩, ⟨fb, (ag3 _ (by omega) (by omega)).trans k12⟩, ⟨f8, (to0 _ (by omega) (by omega) (by omega) (by omega) (by omega) (by omega) (by omega)).trans j8⟩, ⟨f9, (to0 _ (by omega) (by omega) (by omega) (by omega) (by omega) (by omega) (by omega)).trans j9⟩⟩, (to0 _ (by omega) (by omega) (by omega) (by omega) (by omega) (by omega) (by omega)).trans g3, (to0 _ (by omega) (by omega) (by omega) (by omega) (by omega) (by omega) (by omega)).trans g4, g5, g6, g7⟩, fun q hq => to0 q (by omega) (by omega) (by omega) (by omega) (by omega) (by omega) (by omega)⟩
        have fin : ∀ (hh : HP) (f bo : IF) (least : Int32) (b : List Nat) (x4 x5 x6 : Option Value), (∀ q, ¬ q = y + 9 → ¬ q = y + 10 → hh q = h2 q) → hh (y + 9) = some (cI 5 f) → hh (y + 10) = some (cI 5 bo) → IsFM (cst w 0) (PLx (memL (nI m) 8).length (List.range' 1 (memL (nI m) 8).length)) b → least = nI (cst w 0 b) → (∀ i, i < (memL (nI m) 8).length → bo i = nI (mv (b.getD i 0))) → AW X n hh 0 0 163 [some (.ref y), some (.int (nI m)), some (.int (nI k)), some (.int least), x4, x5, x6] [] := by
          intro hh f bo least b x4 x5 x6 ag3 q9 q10 hb hl hbo
          obtain ⟨hn, hhr, hsm⟩ := hfull hh f bo ag3 q9 q10
          have e0 := hn.1
          have hA := hans b hb
          have A0 : k = 0 → least = ans := fun q => by rw [hA, if_pos (by omega), if_pos q, hl]
          have A1 : (memL (nI m) 8).length < k → -1009 = ans := fun q => by rw [hA, if_neg (by omega)]
          have A2 : 1 ≤ k → k ≤ (memL (nI m) 8).length → bo (k - 1) = ans := fun q1 q2 => by rw [hA, if_pos q2, if_neg (by omega), hbo (k - 1) (by omega)]
          refine aw_iload_n hX dX10_bestOrder_163 rfl ?_
          refine aw_if_ne hX 171 dX10_bestOrder_164 (by decide) (fun c_164 => ?_) (fun c_164 => ?_)
          · have n_164 : ¬ k = 0 := fun q_ => c_164 ((nI_eq (a := k) (b := 0) (by omega) (by omega)).mpr q_)
            refine aw_iload_n hX dX10_bestOrder_171 rfl ?_
            refine aw_aload_n hX dX10_bestOrder_172 rfl ?_
            refine gt_X10_163 hX dX10_bestOrder_173 (by assumption) (by exact rfl) ?_
            refine aw_icmp_gt hX 190 dX10_bestOrder_176 (by decide) (fun c_176 => ?_) (fun c_176 => ?_)
            · have n_176 : (memL (nI m) 8).length < k := (nI_ltI (a := (memL (nI m) 8).length) (b := k) (by omega) (by omega)).mp c_176
              refine aw_sipush hX (-1009) dX10_bestOrder_190 (by decide) ?_
              exact aw_iret hX rfl rfl rfl rfl dX10_bestOrder_193 (by exact ⟨congrArg (fun t => some (Value.int t)) (by first | exact A0 (by omega) | exact A1 (by omega) | exact A2 (by omega) (by omega)), hhr, hsm⟩)
            · have n_176 : ¬ (memL (nI m) 8).length < k := fun q_ => c_176 ((nI_ltI (a := (memL (nI m) 8).length) (b := k) (by omega) (by omega)).mpr q_)
              refine aw_aload_n hX dX10_bestOrder_179 rfl ?_
              refine gt_X10_37 hX dX10_bestOrder_180 (by assumption) (by exact rfl) ?_
              refine aw_iload_n hX dX10_bestOrder_183 rfl ?_
              refine aw_iconst hX (1) dX10_bestOrder_184 (by decide) ?_
              refine aw_isub hX dX10_bestOrder_185 ?_
              refine aw_ialdN hX (k - 1) (by assumption) (pk_sub (b := 1) (by omega)) (by omega) (by first | decide | assumption) dX10_bestOrder_186 ?_
              refine aw_goto hX 193 dX10_bestOrder_187 (by decide) ?_
              exact aw_iret hX rfl rfl rfl rfl dX10_bestOrder_193 (by exact ⟨congrArg (fun t => some (Value.int t)) (by first | exact A0 (by omega) | exact A1 (by omega) | exact A2 (by omega) (by omega)), hhr, hsm⟩)
          · have n_164 : k = 0 := (nI_eq (a := k) (b := 0) (by omega) (by omega)).mp c_164
            refine aw_iload_n hX dX10_bestOrder_167 rfl ?_
            refine aw_goto hX 193 dX10_bestOrder_168 (by decide) ?_
            exact aw_iret hX rfl rfl rfl rfl dX10_bestOrder_193 (by exact ⟨congrArg (fun t => some (Value.int t)) (by first | exact A0 (by omega) | exact A1 (by omega) | exact A2 (by omega) (by omega)), hhr, hsm⟩)
        have loop : ∀ (gg : Nat) (post pre : List (List Nat)) (L : List Nat) (least : Int32) (f bo : IF) (hh : HP) (x5 x6 : Option Value), post.length < gg → PLx (memL (nI m) 8).length (List.range' 1 (memL (nI m) 8).length) = pre ++ L :: post → hh (y + 9) = some (cI 5 f) → hh (y + 10) = some (cI 5 bo) → (∀ q, ¬ q = y + 9 → ¬ q = y + 10 → hh q = h2 q) → (∀ i, i < (memL (nI m) 8).length → f i = nI (mv (L.getD i 0))) → ((pre = [] ∧ least = -1) ∨ ∃ b, IsFM (cst w 0) pre b ∧ least = nI (cst w 0 b) ∧ ∀ i, i < (memL (nI m) 8).length → bo i = nI (mv (b.getD i 0))) → AW X n hh 0 0 98 [some (.ref y), some (.int (nI m)), some (.int (nI k)), some (.int least), some (.int 1), x5, x6] [] := by
          intro gg
          induction gg with
          | zero => intro post pre L least f bo hh x5 x6 h0; omega
          | succ gg ih =>
            intro post pre L least f bo hh x5 x6 h0 hpl q9 q10 ag3 hfL hbest
            obtain ⟨hn, -, -⟩ := hfull hh f bo ag3 q9 q10
            have e0 := hn.1
            have hLm : L ∈ PLx (memL (nI m) 8).length (List.range' 1 (memL (nI m) 8).length) := by rw [hpl]; exact List.mem_append_right _ List.mem_cons_self
            have hLl := PLx_len _ _ _ hLm
            have hcost := cst_le hw1 L 0
            have hq8 : ∀ i, i < (memL (nI m) 8).length → mv (L.getD i 0) < 8 := fun i hi => by
              have q := PLx_in hLm hi
              have := hmvK _ q.1 q.2
              omega
            have hnx : nxL (memL (nI m) 8).length L = post.head? := chk_at pre L post (by rw [← hpl]; exact chk_ok _ (by omega) hz1)
            have keep : ∀ (hh : HP) (bo : IF) (least : Int32) (b : List Nat) (x5 x6 : Option Value), hh (y + 9) = some (cI 5 f) → hh (y + 10) = some (cI 5 bo) → (∀ q, ¬ q = y + 9 → ¬ q = y + 10 → hh q = h2 q) → IsFM (cst w 0) (pre ++ [L]) b → least = nI (cst w 0 b) → (∀ i, i < (memL (nI m) 8).length → bo i = nI (mv (b.getD i 0))) → AW X n hh 0 0 154 [some (.ref y), some (.int (nI m)), some (.int (nI k)), some (.int least), some (.int 1), x5, x6] [] := by
              intro hh bo least b x5 x6 q9 q10 ag3 hb hl hbo
              obtain ⟨hn, -, -⟩ := hfull hh f bo ag3 q9 q10
              have e0 := hn.1
              refine aw_aload_n hX dX10_bestOrder_154 rfl ?_
              refine aw_callV0 hX RX10 rfl (tX10_goesOn _ _ _ hn hz1 i2 q9 (q := fun i => mv (L.getD i 0)) hfL hq8) rfl mf_X10_goesOn mi_X10_goesOn ms_X10_goesOn kl_X10_175 (by assumption) rfl rfl (by decide) (Nat.le_of_ble_eq_true rfl) dX10_bestOrder_155 (by decide) (fun v_155 h_155 p_155 => ?_)
              rcases p_155 with ⟨a1, rfl, rfl⟩ | ⟨a1, rfl, f', rfl, a2⟩
              · (refine aw_istore hX dX10_bestOrder_158 (Nat.le_of_ble_eq_true rfl) ?_; refine aw_goto hX 98 dX10_bestOrder_160 (by decide) ?_; refine aw_iload hX dX10_bestOrder_98 rfl ?_; refine aw_if_eq hX 163 dX10_bestOrder_100 (by decide) (fun _ => ?_) (fun c => absurd rfl c); cases post with | nil => exact fin _ f bo least b _ _ _ ag3 q9 q10 (by rw [hpl]; exact hb) hl hbo | cons L2 post2 => exact absurd a1 (nx_some hz1 (hmono L hLm) hnx).1)
              · (refine aw_istore hX dX10_bestOrder_158 (Nat.le_of_ble_eq_true rfl) ?_; refine aw_goto hX 98 dX10_bestOrder_160 (by decide) ?_; cases post with | nil => exact absurd (nx_none hz1 (hmono L hLm) hnx) a1 | cons L2 post2 => exact ih post2 (pre ++ [L]) L2 least f' bo _ _ _ (by have : post2.length + 1 < gg + 1 := h0; omega) (by rw [hpl, List.append_assoc]; rfl) (hset_eq _ _ _) ((hset_ne _ _ (by omega)).trans q10) (fun q a3 a4 => (hset_ne _ _ a3).trans (ag3 q a3 a4)) (fun i hi => by rw [a2 i hi, (nx_some hz1 (hmono L hLm) hnx).2 i hi]) (Or.inr ⟨b, hb, hl, hbo⟩))
            have take : ∀ (least : Int32) (x6 : Option Value), IsFM (cst w 0) (pre ++ [L]) L → AW X n hh 0 0 119 [some (.ref y), some (.int (nI m)), some (.int (nI k)), some (.int least), some (.int 1), some (.int (nI (cst w 0 L))), x6] [] := by
              intro least x6 hb
              have copy : ∀ (z j : Nat) (bo' : IF), j ≤ (memL (nI m) 8).length → (memL (nI m) 8).length - j < z → (∀ i, i < j → bo' i = f i) → AW X n (hset hh (y + 10) (cI 5 bo')) 0 0 125 [some (.ref y), some (.int (nI m)), some (.int (nI k)), some (.int (nI (cst w 0 L))), some (.int 1), some (.int (nI (cst w 0 L))), some (.int (nI j))] [] := by
                intro z
                induction z with
                | zero => intro j bo' c1 c2; omega
                | succ z ihz =>
                  intro j bo' c1 c2 c3
                  have u9 := (hset_ne hh (q := y + 9) (a := y + 10) (cI 5 bo') (by omega)).trans q9
                  have u10 := hset_eq hh (y + 10) (cI 5 bo')
                  have e0 := (hset_ne hh (q := y) (a := y + 10) (cI 5 bo') (by omega)).trans hn.1
                  refine aw_iload hX dX10_bestOrder_125 rfl ?_
                  refine aw_aload_n hX dX10_bestOrder_127 rfl ?_
                  refine gt_X10_163 hX dX10_bestOrder_128 (by assumption) (by exact rfl) ?_
                  refine aw_icmp_ge hX 154 dX10_bestOrder_131 (by decide) (fun c_131 => ?_) (fun c_131 => ?_)
                  · have n_131 : (memL (nI m) 8).length ≤ j := (nI_leI (a := (memL (nI m) 8).length) (b := j) (by omega) (by omega)).mp c_131
                    exact keep _ bo' _ L _ _ u9 u10 (fun q a3 a4 => (hset_ne _ _ a4).trans (ag3 q a3 a4)) hb rfl (fun i hi => (c3 i (by omega)).trans (hfL i hi))
                  · have n_131 : ¬ (memL (nI m) 8).length ≤ j := fun q_ => c_131 ((nI_leI (a := (memL (nI m) 8).length) (b := j) (by omega) (by omega)).mpr q_)
                    refine aw_aload_n hX dX10_bestOrder_134 rfl ?_
                    refine gt_X10_37 hX dX10_bestOrder_135 (by assumption) (by exact rfl) ?_
                    refine aw_iload hX dX10_bestOrder_138 rfl ?_
                    refine aw_aload_n hX dX10_bestOrder_140 rfl ?_
                    refine gt_X10_34 hX dX10_bestOrder_141 (by assumption) (by exact rfl) ?_
                    refine aw_iload hX dX10_bestOrder_144 rfl ?_
                    refine aw_ialdN hX (j) (by assumption) rfl (by omega) (by first | decide | assumption) dX10_bestOrder_146 ?_
                    refine aw_iastN hX (j) (by assumption) rfl (by omega) (by first | decide | assumption) dX10_bestOrder_147 ?_
                    rw [hset_hset]
                    refine aw_iinc hX (nI (j + 1)) dX10_bestOrder_148 rfl (nI_1 j) ?_
                    refine aw_goto hX 125 dX10_bestOrder_151 (by decide) ?_
                    exact ihz (j + 1) (upd bo' j (f j)) (by omega) (by omega) (upd_lo2 c3)
              refine aw_iload hX dX10_bestOrder_119 rfl ?_
              refine aw_istore_n hX dX10_bestOrder_121 (Nat.le_of_ble_eq_true rfl) ?_
              refine aw_iconst hX (0) dX10_bestOrder_122 (by decide) ?_
              refine aw_istore hX dX10_bestOrder_123 (Nat.le_of_ble_eq_true rfl) ?_
              rw [← hset_self q10]
              exact copy ((memL (nI m) 8).length + 1) 0 bo (by omega) (by omega) (fun i hi => absurd hi (Nat.not_lt_zero i))
            have hfl : ∀ (l : Launch) (E : EV) (n : Nat), MX10_flipsFor l E n hh [.ref y] (PR (.int (nI (cst w 0 L))) hh) := fun l E n => by
              have hfl := tX10_flipsFor l E n hn hz1 i2 q9 ((ag3 _ (by omega) (by omega)).trans k11) ((ag3 _ (by omega) (by omega)).trans k12) (q := fun i => mv (L.getD i 0)) (p := fun i => L.getD i 0) (w := w) hfL hq8 (fun i hi => by have q := PLx_in hLm hi; rw [kf _ (hmvK _ q.1 q.2), ← hpj1 _ q.1, ← hpj0, df_comm, hw2]) (fun i j hi hj => by have q := PLx_in hLm hi; have r := PLx_in hLm hj; rw [kb _ _ (hmvK _ q.1 q.2) (hmvK _ r.1 r.2), ← hpj1 _ q.1, ← hpj1 _ r.1, hw2])
              rw [show sc w 0 (fun i => L.getD i 0) (memL (nI m) 8).length = cst w 0 L by rw [← sc_cst w L 0, hLl]] at hfl
              exact hfl
            rcases hbest with ⟨hpre, hl⟩ | ⟨b, hb, hl, hbo⟩
            ·
              subst hpre
              subst hl
              refine aw_iload hX dX10_bestOrder_98 rfl ?_
              refine aw_if_eq hX 163 dX10_bestOrder_100 (by decide) (fun c_100 => ?_) (fun c_100 => ?_)
              · exact absurd c_100 (by decide)
              · refine aw_aload_n hX dX10_bestOrder_103 rfl ?_
                refine aw_callVp hX RX10 rfl (hfl _ _ _) rfl mf_X10_flipsFor mi_X10_flipsFor ms_X10_flipsFor kl_X10_172 (by assumption) rfl rfl (by decide) (Nat.le_of_ble_eq_true rfl) dX10_bestOrder_104 (by decide) ?_
                refine aw_istore hX dX10_bestOrder_107 (Nat.le_of_ble_eq_true rfl) ?_
                refine aw_iload_n hX dX10_bestOrder_109 rfl ?_
                refine aw_if_lt hX 119 dX10_bestOrder_110 (by decide) (fun c_110 => ?_) (fun c_110 => ?_)
                · exact take _ _ IsFM.one
                · exact absurd (show (-1 : Int32) < 0 by decide) c_110
            ·
              subst hl
              have hbm := cst_le hw1 b 0
              have hbl := PLx_len (memL (nI m) 8).length (List.range' 1 (memL (nI m) 8).length) b (by rw [hpl]; exact List.mem_append_left _ hb.mem)
              refine aw_iload hX dX10_bestOrder_98 rfl ?_
              refine aw_if_eq hX 163 dX10_bestOrder_100 (by decide) (fun c_100 => ?_) (fun c_100 => ?_)
              · exact absurd c_100 (by decide)
              · refine aw_aload_n hX dX10_bestOrder_103 rfl ?_
                refine aw_callVp hX RX10 rfl (hfl _ _ _) rfl mf_X10_flipsFor mi_X10_flipsFor ms_X10_flipsFor kl_X10_172 (by assumption) rfl rfl (by decide) (Nat.le_of_ble_eq_true rfl) dX10_bestOrder_104 (by decide) ?_
                refine aw_istore hX dX10_bestOrder_107 (Nat.le_of_ble_eq_true rfl) ?_
                refine aw_iload_n hX dX10_bestOrder_109 rfl ?_
                refine aw_if_lt hX 119 dX10_bestOrder_110 (by decide) (fun c_110 => ?_) (fun c_110 => ?_)
                · exact absurd c_110 (nI_pos (by omega))
                · refine aw_iload hX dX10_bestOrder_113 rfl ?_
                  refine aw_iload_n hX dX10_bestOrder_115 rfl ?_
                  refine aw_icmp_ge hX 154 dX10_bestOrder_116 (by decide) (fun c_116 => ?_) (fun c_116 => ?_)
                  · have n_116 : cst w 0 b ≤ cst w 0 L := (nI_leI (a := cst w 0 b) (b := cst w 0 L) (by omega) (by omega)).mp c_116
                    exact keep hh bo _ b _ _ q9 q10 ag3 (hb.snoc_le n_116) rfl hbo
                  · have n_116 : ¬ cst w 0 b ≤ cst w 0 L := fun q_ => c_116 ((nI_leI (a := cst w 0 b) (b := cst w 0 L) (by omega) (by omega)).mpr q_)
                    exact take _ _ (hb.snoc_lt (by omega))
        obtain ⟨post0, hp0⟩ : ∃ post0, PLx (memL (nI m) 8).length (List.range' 1 (memL (nI m) 8).length) = List.range' 1 (memL (nI m) 8).length :: post0 := by
          have q := PLx_first (memL (nI m) 8).length (by omega)
          cases hc : PLx (memL (nI m) 8).length (List.range' 1 (memL (nI m) 8).length) with
          | nil => rw [hc] at q; cases q
          | cons a b => rw [hc] at q; exact ⟨b, by rw [Option.some.inj q]⟩
        have q9 := (ag2 (y + 9) (by omega) (by omega) (by omega) (by omega)).trans hf
        have q10 := (ag2 (y + 10) (by omega) (by omega) (by omega) (by omega)).trans ((ag1 (y + 10) (by omega) (by omega)).trans j5)
        refine aw_iconst hX (-1) dX10_bestOrder_93 (by decide) ?_
        refine aw_istore_n hX dX10_bestOrder_94 (Nat.le_of_ble_eq_true rfl) ?_
        refine aw_iconst hX (1) dX10_bestOrder_95 (by decide) ?_
        refine aw_istore hX dX10_bestOrder_96 (Nat.le_of_ble_eq_true rfl) ?_
        exact loop (post0.length + 1) post0 [] (List.range' 1 (memL (nI m) 8).length) (-1) f f5 h2 _ _ (Nat.lt_succ_self _) hp0 q9 q10 (fun q _ _ => rfl) (fun i hi => by rw [hfm i hi, hmvd, List.getD_eq_getElem?_getD (l := List.range' 1 (memL (nI m) 8).length), List.getElem?_range' hi]; show nI _ = nI ((memL (nI m) 8).getD (1 + 1 * i - 1) 0); rw [show 1 + 1 * i - 1 = i by omega]) (Or.inl ⟨rfl, rfl⟩)
      refine aw_aload_n hX dX10_bestOrder_89 rfl ?_
      refine aw_callV0 hX RX10 rfl (tX10_laysFlips _ _ _ g g5 ((ag1 _ (by omega) (by omega)).trans j1) ((ag1 _ (by omega) (by omega)).trans j2) ((ag1 _ (by omega) (by omega)).trans j6) ((ag1 _ (by omega) (by omega)).trans j7)) rfl mf_X10_laysFlips mi_X10_laysFlips ms_X10_laysFlips kl_X10_169 (by assumption) rfl rfl (by decide) (Nat.le_of_ble_eq_true rfl) dX10_bestOrder_90 (by decide) (fun v_90 h_90 p_90 => ?_)
      obtain ⟨rfl, a1, a2, a3, ff, fb, a4, a5, a6, a7⟩ := p_90
      exact main3 _ ff fb a1 a2 a3 a4 a5 a6 a7
    have gather : ∀ (gg i : Nat) (f : IF) (hh : HP) (x4 x5 x6 : Option Value), i ≤ B.1.2.2.1.2.2.2.2 → B.1.2.2.1.2.2.2.2 - i < gg → HN hh y s B.2.1.length B.2.2.2 sp (memL (nI m) i).length → hh (y + 9) = some (cI 5 f) → (∀ j, j < (memL (nI m) i).length → f j = nI ((memL (nI m) i).getD j 0)) → (∀ q, ¬ q = y → ¬ q = y + 9 → hh q = h q) → AW X n hh 0 0 44 [some (.ref y), some (.int (nI m)), some (.int (nI k)), some (.int (nI i)), x4, x5, x6] [] := by
      intro gg
      induction gg with
      | zero => intro i f hh x4 x5 x6 c1 c2; omega
      | succ gg ih =>
        intro i f hh x4 x5 x6 c1 c2 g hf hfm ag1
        obtain ⟨e0, e1⟩ := id g
        have hs := memL_succ (nI m) i
        refine aw_iload_n hX dX10_bestOrder_44 rfl ?_
        refine aw_aload_n hX dX10_bestOrder_45 rfl ?_
        refine gt_X10_7 hX dX10_bestOrder_46 (by assumption) (by exact rfl) ?_
        refine aw_iconst hX (4) dX10_bestOrder_49 (by decide) ?_
        refine aw_ialdN hX (4) (by assumption) rfl (by decide) (by first | decide | assumption) dX10_bestOrder_50 ?_
        rw [r3]
        refine aw_icmp_ge hX 89 dX10_bestOrder_51 (by decide) (fun c_51 => ?_) (fun c_51 => ?_)
        · have n_51 : B.1.2.2.1.2.2.2.2 ≤ i := (nI_leI (a := B.1.2.2.1.2.2.2.2) (b := i) (by omega) (by omega)).mp c_51
          have hi : i = B.1.2.2.1.2.2.2.2 := (by omega)
          subst hi
          rw [hmk] at g hfm
          exact main2 hh f _ _ _ _ g hf hfm ag1
        · have n_51 : ¬ B.1.2.2.1.2.2.2.2 ≤ i := fun q_ => c_51 ((nI_leI (a := B.1.2.2.1.2.2.2.2) (b := i) (by omega) (by omega)).mpr q_)
          have hml := memL_mono (nI m) (i + 1) (7 - i)
          rw [show i + 1 + (7 - i) = 8 by omega] at hml
          refine aw_iload_n hX dX10_bestOrder_54 rfl ?_
          refine aw_iload_n hX dX10_bestOrder_55 rfl ?_
          refine aw_ishr hX dX10_bestOrder_56 ?_
          refine aw_iconst hX (1) dX10_bestOrder_57 (by decide) ?_
          refine aw_iand hX dX10_bestOrder_58 ?_
          rw [mk_bit8 m hm256 i (by omega)]
          refine aw_iconst hX (1) dX10_bestOrder_59 (by decide) ?_
          refine aw_icmp_ne hX 83 dX10_bestOrder_60 (by decide) (fun c_60 => ?_) (fun c_60 => ?_)
          · rw [if_pos (Decidable.not_not.mp (fun q => c_60 (bI_1.mpr q)))] at hs
            refine aw_iinc hX (nI (i + 1)) dX10_bestOrder_83 rfl (nI_1 i) ?_
            refine aw_goto hX 44 dX10_bestOrder_86 (by decide) ?_
            exact ih (i + 1) f hh x4 x5 x6 (by omega) (by omega) (by rw [hs]; exact g) hf (by rw [hs]; exact hfm) ag1
          · rw [if_neg (bI_1.mp c_60)] at hs
            have hl5 : (memL (nI m) i).length < 5 := by (rw [hs, List.length_append] at hml; have h1x : [i].length = 1 := rfl; omega)
            refine aw_aload_n hX dX10_bestOrder_63 rfl ?_
            refine gt_X10_34 hX dX10_bestOrder_64 (by assumption) (by exact rfl) ?_
            refine aw_aload_n hX dX10_bestOrder_67 rfl ?_
            refine gt_X10_163 hX dX10_bestOrder_68 (by assumption) (by exact rfl) ?_
            refine aw_iload_n hX dX10_bestOrder_71 rfl ?_
            refine aw_iastN hX ((memL (nI m) i).length) (by assumption) rfl (by omega) (by first | decide | assumption) dX10_bestOrder_72 ?_
            have g := g.off (a := y + 9) (cI 5 (upd f (memL (nI m) i).length (nI i))) (by omega)
            have e0 := g.1
            refine aw_aload_n hX dX10_bestOrder_73 rfl ?_
            refine aw_dup hX dX10_bestOrder_74 rfl ?_
            refine gt_X10_163 hX dX10_bestOrder_75 (by assumption) (by exact rfl) ?_
            refine aw_iconst hX (1) dX10_bestOrder_78 (by decide) ?_
            refine aw_iadd hX dX10_bestOrder_79 ?_
            rw [nI_1]
            refine pt_X10_163 hX dX10_bestOrder_80 (by assumption) (Nat.le_of_ble_eq_true rfl) ?_
            dsimp only [List.set_cons_zero, List.set_cons_succ]
            refine aw_iinc hX (nI (i + 1)) dX10_bestOrder_83 rfl (nI_1 i) ?_
            refine aw_goto hX 44 dX10_bestOrder_86 (by decide) ?_
            have hl2 : (memL (nI m) i ++ [i]).length = (memL (nI m) i).length + 1 := by (rw [List.length_append (as := memL (nI m) i)]; rfl)
            exact ih (i + 1) (upd f (memL (nI m) i).length (nI i)) _ _ _ _ (by omega) (by omega) (by rw [hs, hl2]; exact g.omt _) ((hset_ne _ _ (by omega)).trans (hset_eq _ _ _)) (by rw [hs]; exact upd_snoc hfm) (fun q a3 a4 => (hset_ne _ _ a3).trans ((hset_ne _ _ a4).trans (ag1 q a3 a4)))
    obtain ⟨f4, j4⟩ := g2.2.2.2.1
    refine aw_iload_n hX dX10_bestOrder_0 rfl ?_
    refine aw_if_le hX 33 dX10_bestOrder_1 (by decide) (fun c_1 => ?_) (fun c_1 => ?_)
    · exact absurd hv.1.1 (Int32.not_lt.mpr c_1)
    · refine aw_iload_n hX dX10_bestOrder_4 rfl ?_
      refine aw_iconst hX (1) dX10_bestOrder_5 (by decide) ?_
      refine aw_aload_n hX dX10_bestOrder_6 rfl ?_
      refine gt_X10_7 hX dX10_bestOrder_7 (by assumption) (by exact rfl) ?_
      refine aw_iconst hX (4) dX10_bestOrder_10 (by decide) ?_
      refine aw_ialdN hX (4) (by assumption) rfl (by decide) (by first | decide | assumption) dX10_bestOrder_11 ?_
      rw [r3]
      refine aw_ishl hX dX10_bestOrder_12 ?_
      refine aw_icmp_ge hX 33 dX10_bestOrder_13 (by decide) (fun c_13 => ?_) (fun c_13 => ?_)
      · exact absurd hv.1.2.1 (Int32.not_lt.mpr c_13)
      · refine aw_iload_n hX dX10_bestOrder_16 rfl ?_
        refine aw_callSp hX RX10 rfl (tX10_bits _ _ _ _ hm256) rfl mf_X10_bits mt_X10_bits kl_X10_72 rfl (by decide) (Nat.le_of_ble_eq_true rfl) dX10_bestOrder_17 (by decide) ?_
        refine aw_iconst hX (5) dX10_bestOrder_20 (by decide) ?_
        refine aw_icmp_gt hX 33 dX10_bestOrder_21 (by decide) (fun c_21 => ?_) (fun c_21 => ?_)
        · exact absurd hv.1.2.2 (Int32.not_le.mpr c_21)
        · refine aw_iload_n hX dX10_bestOrder_24 rfl ?_
          refine aw_iconst hX (0) dX10_bestOrder_25 (by decide) ?_
          refine aw_iconst hX (5) dX10_bestOrder_26 (by decide) ?_
          refine aw_callSp hX RX10 rfl (tX10_in _ _ _ _ (nI k) 0 5) rfl mf_X10_in mt_X10_in kl_X10_96 rfl (by decide) (Nat.le_of_ble_eq_true rfl) dX10_bestOrder_27 (by decide) ?_
          refine aw_if_ne hX 37 dX10_bestOrder_30 (by decide) (fun c_30 => ?_) (fun c_30 => ?_)
          · refine aw_aload_n hX dX10_bestOrder_37 rfl ?_
            refine aw_iconst hX (0) dX10_bestOrder_38 (by decide) ?_
            refine pt_X10_163 hX dX10_bestOrder_39 (by assumption) (Nat.le_of_ble_eq_true rfl) ?_
            dsimp only [List.set_cons_zero, List.set_cons_succ]
            have g := g1.omt 0
            refine aw_iconst hX (0) dX10_bestOrder_42 (by decide) ?_
            refine aw_istore_n hX dX10_bestOrder_43 (Nat.le_of_ble_eq_true rfl) ?_
            exact gather (B.1.2.2.1.2.2.2.2 + 1) 0 f4 _ _ _ _ (by omega) (by omega) g ((hset_ne _ _ (by omega)).trans j4) (fun j hj => absurd hj (Nat.not_lt_zero j)) (fun q a3 a4 => hset_ne _ _ a3)
          · exact absurd hv.2 (bI_eq0.mp c_30)
  · clear hg
    rw [fOrder, if_neg hv]
    refine AM.intro mf_X10_bestOrder (by simp [Value.category]) (Nat.le_of_ble_eq_true rfl) (fun X hl hE hnm hX => ?_)
    subst hl
    subst hE
    show AW X _ _ 0 0 0 [some (.ref y), some (.int M), some (.int x), none, none, none, none] []
    refine aw_iload_n hX dX10_bestOrder_0 rfl ?_
    refine aw_if_le hX 33 dX10_bestOrder_1 (by decide) (fun c_1 => ?_) (fun c_1 => ?_)
    · refine aw_sipush hX (-1001) dX10_bestOrder_33 (by decide) ?_
      exact aw_iret hX rfl rfl rfl rfl dX10_bestOrder_36 ⟨rfl, e, Sm.rf⟩
    · refine aw_iload_n hX dX10_bestOrder_4 rfl ?_
      refine aw_iconst hX (1) dX10_bestOrder_5 (by decide) ?_
      refine aw_aload_n hX dX10_bestOrder_6 rfl ?_
      refine gt_X10_7 hX dX10_bestOrder_7 (by assumption) (by exact rfl) ?_
      refine aw_iconst hX (4) dX10_bestOrder_10 (by decide) ?_
      refine aw_ialdN hX (4) (by assumption) rfl (by decide) (by first | decide | assumption) dX10_bestOrder_11 ?_
      rw [r3]
      refine aw_ishl hX dX10_bestOrder_12 ?_
      refine aw_icmp_ge hX 33 dX10_bestOrder_13 (by decide) (fun c_13 => ?_) (fun c_13 => ?_)
      · refine aw_sipush hX (-1001) dX10_bestOrder_33 (by decide) ?_
        exact aw_iret hX rfl rfl rfl rfl dX10_bestOrder_36 ⟨rfl, e, Sm.rf⟩
      · have hM1 := Int32.not_le.mp c_1
        have hM2 : M < mk B.1.2.2.1.2.2.2.2 := Int32.not_le.mp c_13
        obtain ⟨m, hm, hme⟩ : ∃ m, m < 2 ^ B.1.2.2.1.2.2.2.2 ∧ M = nI m := rng (2 ^ B.1.2.2.1.2.2.2.2) (by have := Nat.pow_le_pow_right (show 0 < 2 by decide) hK8; omega) (Int32.le_of_lt hM1) (by rw [← so_mk _ hK8]; exact hM2)
        have hm256 : m < 256 := (by have := Nat.pow_le_pow_right (show 0 < 2 by decide) hK8; omega)
        have hbits : ∀ (l : Launch) (E : EV) (n : Nat), MX10_bits l E n h [.int M] (PR (.int (bcF M)) h) := fun l E n => by rw [hme]; exact tX10_bits l E n h hm256
        refine aw_iload_n hX dX10_bestOrder_16 rfl ?_
        refine aw_callSp hX RX10 rfl (hbits _ _ _) rfl mf_X10_bits mt_X10_bits kl_X10_72 rfl (by decide) (Nat.le_of_ble_eq_true rfl) dX10_bestOrder_17 (by decide) ?_
        refine aw_iconst hX (5) dX10_bestOrder_20 (by decide) ?_
        refine aw_icmp_gt hX 33 dX10_bestOrder_21 (by decide) (fun c_21 => ?_) (fun c_21 => ?_)
        · refine aw_sipush hX (-1001) dX10_bestOrder_33 (by decide) ?_
          exact aw_iret hX rfl rfl rfl rfl dX10_bestOrder_36 ⟨rfl, e, Sm.rf⟩
        · refine aw_iload_n hX dX10_bestOrder_24 rfl ?_
          refine aw_iconst hX (0) dX10_bestOrder_25 (by decide) ?_
          refine aw_iconst hX (5) dX10_bestOrder_26 (by decide) ?_
          refine aw_callSp hX RX10 rfl (tX10_in _ _ _ _ x 0 5) rfl mf_X10_in mt_X10_in kl_X10_96 rfl (by decide) (Nat.le_of_ble_eq_true rfl) dX10_bestOrder_27 (by decide) ?_
          refine aw_if_ne hX 37 dX10_bestOrder_30 (by decide) (fun c_30 => ?_) (fun c_30 => ?_)
          · exact absurd ⟨⟨hM1, hM2, Int32.not_lt.mp c_21⟩, Decidable.not_not.mp (fun q => c_30 (bI_eq0.mpr q))⟩ hv
          · refine aw_sipush hX (-1001) dX10_bestOrder_33 (by decide) ?_
            exact aw_iret hX rfl rfl rfl rfl dX10_bestOrder_36 (by exact ⟨rfl, e, Sm.rf⟩)
end REF20
