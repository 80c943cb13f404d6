/-! the reference: its row is written -/
theorem RS.shown {s : IF} {v : PV} {W : Nat} (H : RS s v W) (hv : WS v.2.2.1) {j : Nat} (hj : j < 40) (x : Int32) : RS (upd s (9 + j) x) ((v.1.1, upd v.1.2.1 j x, v.1.2.2), v.2) W := by
  obtain ⟨⟨r1, r1a⟩, r2, r3, ⟨r4, r5, r6, r7⟩, r8, r9, r10, r11, r12⟩ := H
  refine ⟨⟨(pk_un (by omega)).trans r1, r1a⟩, fun k hk => (pk_un (by omega)).trans (r2 k hk), (pk_un (by omega)).trans r3, ⟨(pk_un (by omega)).trans r4, (pk_un (by omega)).trans r5, (pk_un (by omega)).trans r6, (pk_un (by omega)).trans r7⟩, fun c hc => ?_, fun c r hc hr => (pk_un (by omega)).trans (r9 c r hc hr), fun l hl => ?_, fun m hm => ?_, fun k hk hT => (pk_un (by omega)).trans (r12 k hk hT)⟩
  · obtain ⟨q1, q2, q3, q4⟩ := r8 c hc
    refine ⟨?_, (pk_un (by omega)).trans q2, (pk_un (by omega)).trans q3, (pk_un (by omega)).trans q4⟩
    by_cases e : c = j
    · subst e
      exact pk_us.trans pk_us.symm
    · exact (pk_un (by omega)).trans (q1.trans (pk_un e).symm)
  · obtain ⟨q1, q2⟩ := r10 l hl
    have h5 := hv.2.1 l hl
    exact ⟨(pk_un (by omega)).trans q1, fun i hi => (pk_un (by omega)).trans (q2 i hi)⟩
  · obtain ⟨q1, q2⟩ := r11 m hm
    have h8 := hv.1
    have h12 := (hv.2.2 m hm).2.1
    exact ⟨(pk_un (by omega)).trans q1, fun i hi => (pk_un (by omega)).trans (q2 i hi)⟩
theorem RS.stuck {s : IF} {v : PV} {W : Nat} (H : RS s v W) (hv : WS v.2.2.1) {j : Nat} (hj : j < 40) (x : Int32) : RS (upd s (89 + j) x) ((v.1.1, v.1.2.1, v.1.2.2.1, upd v.1.2.2.2.1 j x, v.1.2.2.2.2), v.2) W := by
  obtain ⟨⟨r1, r1a⟩, r2, r3, ⟨r4, r5, r6, r7⟩, r8, r9, r10, r11, r12⟩ := H
  refine ⟨⟨(pk_un (by omega)).trans r1, r1a⟩, fun k hk => (pk_un (by omega)).trans (r2 k hk), (pk_un (by omega)).trans r3, ⟨(pk_un (by omega)).trans r4, (pk_un (by omega)).trans r5, (pk_un (by omega)).trans r6, (pk_un (by omega)).trans r7⟩, fun c hc => ?_, fun c r hc hr => (pk_un (by omega)).trans (r9 c r hc hr), fun l hl => ?_, fun m hm => ?_, fun k hk hT => (pk_un (by omega)).trans (r12 k hk hT)⟩
  · obtain ⟨q1, q2, q3, q4⟩ := r8 c hc
    refine ⟨(pk_un (by omega)).trans q1, (pk_un (by omega)).trans q2, ?_, (pk_un (by omega)).trans q4⟩
    by_cases e : c = j
    · subst e
      exact pk_us.trans pk_us.symm
    · exact (pk_un (by omega)).trans (q3.trans (pk_un e).symm)
  · obtain ⟨q1, q2⟩ := r10 l hl
    have h5 := hv.2.1 l hl
    exact ⟨(pk_un (by omega)).trans q1, fun i hi => (pk_un (by omega)).trans (q2 i hi)⟩
  · obtain ⟨q1, q2⟩ := r11 m hm
    have h8 := hv.1
    have h12 := (hv.2.2 m hm).2.1
    exact ⟨(pk_un (by omega)).trans q1, fun i hi => (pk_un (by omega)).trans (q2 i hi)⟩
theorem RS.known {s : IF} {v : PV} {W : Nat} (H : RS s v W) (hv : WS v.2.2.1) {j : Nat} (hj : j < 40) (x : Int32) : RS (upd s (129 + j) x) ((v.1.1, v.1.2.1, v.1.2.2.1, v.1.2.2.2.1, upd v.1.2.2.2.2.1 j x, v.1.2.2.2.2.2), v.2) W := by
  obtain ⟨⟨r1, r1a⟩, r2, r3, ⟨r4, r5, r6, r7⟩, r8, r9, r10, r11, r12⟩ := H
  refine ⟨⟨(pk_un (by omega)).trans r1, r1a⟩, fun k hk => (pk_un (by omega)).trans (r2 k hk), (pk_un (by omega)).trans r3, ⟨(pk_un (by omega)).trans r4, (pk_un (by omega)).trans r5, (pk_un (by omega)).trans r6, (pk_un (by omega)).trans r7⟩, fun c hc => ?_, fun c r hc hr => (pk_un (by omega)).trans (r9 c r hc hr), fun l hl => ?_, fun m hm => ?_, fun k hk hT => (pk_un (by omega)).trans (r12 k hk hT)⟩
  · obtain ⟨q1, q2, q3, q4⟩ := r8 c hc
    refine ⟨(pk_un (by omega)).trans q1, (pk_un (by omega)).trans q2, (pk_un (by omega)).trans q3, ?_⟩
    by_cases e : c = j
    · subst e
      exact pk_us.trans pk_us.symm
    · exact (pk_un (by omega)).trans (q4.trans (pk_un e).symm)
  · obtain ⟨q1, q2⟩ := r10 l hl
    have h5 := hv.2.1 l hl
    exact ⟨(pk_un (by omega)).trans q1, fun i hi => (pk_un (by omega)).trans (q2 i hi)⟩
  · obtain ⟨q1, q2⟩ := r11 m hm
    have h8 := hv.1
    have h12 := (hv.2.2 m hm).2.1
    exact ⟨(pk_un (by omega)).trans q1, fun i hi => (pk_un (by omega)).trans (q2 i hi)⟩
theorem RS.flp {s : IF} {v : PV} {W : Nat} (H : RS s v W) (hv : WS v.2.2.1) {j i : Nat} (hj : j < 40) (hi : i < 7) (x : Int32) : RS (upd s (169 + 7 * j + i) x) ((v.1.1, v.1.2.1, v.1.2.2.1, v.1.2.2.2.1, v.1.2.2.2.2.1, upd v.1.2.2.2.2.2 (j * 7 + i) x), v.2) W := by
  obtain ⟨⟨r1, r1a⟩, r2, r3, ⟨r4, r5, r6, r7⟩, r8, r9, r10, r11, r12⟩ := H
  refine ⟨⟨(pk_un (by omega)).trans r1, r1a⟩, fun k hk => (pk_un (by omega)).trans (r2 k hk), (pk_un (by omega)).trans r3, ⟨(pk_un (by omega)).trans r4, (pk_un (by omega)).trans r5, (pk_un (by omega)).trans r6, (pk_un (by omega)).trans r7⟩, fun c hc => ?_, fun c r hc hr => by by_cases e : c * 7 + r = j * 7 + i; (have e1 : c = j := by omega); (have e2 : r = i := by omega); subst e1; subst e2; exact pk_us.trans pk_us.symm; exact (pk_un (by omega)).trans ((r9 c r hc hr).trans (pk_un e).symm), fun l hl => ?_, fun m hm => ?_, fun k hk hT => (pk_un (by omega)).trans (r12 k hk hT)⟩
  · obtain ⟨q1, q2, q3, q4⟩ := r8 c hc
    exact ⟨(pk_un (by omega)).trans q1, (pk_un (by omega)).trans q2, (pk_un (by omega)).trans q3, (pk_un (by omega)).trans q4⟩
  · obtain ⟨q1, q2⟩ := r10 l hl
    have h5 := hv.2.1 l hl
    exact ⟨(pk_un (by omega)).trans q1, fun i hi => (pk_un (by omega)).trans (q2 i hi)⟩
  · obtain ⟨q1, q2⟩ := r11 m hm
    have h8 := hv.1
    have h12 := (hv.2.2 m hm).2.1
    exact ⟨(pk_un (by omega)).trans q1, fun i hi => (pk_un (by omega)).trans (q2 i hi)⟩
theorem RS.num {s : IF} {v : PV} {W : Nat} (H : RS s v W) (hv : WS v.2.2.1) {w : Nat} (hw : w < 3) (x : Int32) : RS (upd s (1 + w) x) (v.1, v.2.1, v.2.2.1, upd v.2.2.2 w x) W := by
  obtain ⟨⟨r1, r1a⟩, r2, r3, ⟨r4, r5, r6, r7⟩, r8, r9, r10, r11, r12⟩ := H
  refine ⟨⟨(pk_un (by omega)).trans r1, r1a⟩, fun k hk => by by_cases e : k = w; subst e; exact pk_us.trans pk_us.symm; exact (pk_un (by omega)).trans ((r2 k hk).trans (pk_un e).symm), (pk_un (by omega)).trans r3, ⟨(pk_un (by omega)).trans r4, (pk_un (by omega)).trans r5, (pk_un (by omega)).trans r6, (pk_un (by omega)).trans r7⟩, fun c hc => ?_, fun c r hc hr => (pk_un (by omega)).trans (r9 c r hc hr), fun l hl => ?_, fun m hm => ?_, fun k hk hT => (pk_un (by omega)).trans (r12 k hk hT)⟩
  · obtain ⟨q1, q2, q3, q4⟩ := r8 c hc
    exact ⟨(pk_un (by omega)).trans q1, (pk_un (by omega)).trans q2, (pk_un (by omega)).trans q3, (pk_un (by omega)).trans q4⟩
  · obtain ⟨q1, q2⟩ := r10 l hl
    have h5 := hv.2.1 l hl
    exact ⟨(pk_un (by omega)).trans q1, fun i hi => (pk_un (by omega)).trans (q2 i hi)⟩
  · obtain ⟨q1, q2⟩ := r11 m hm
    have h8 := hv.1
    have h12 := (hv.2.2 m hm).2.1
    exact ⟨(pk_un (by omega)).trans q1, fun i hi => (pk_un (by omega)).trans (q2 i hi)⟩
theorem RS.fld {s : IF} {v : PV} {W : Nat} (H : RS s v W) (hv : WS v.2.2.1)  (x : Int32) : RS (upd s (5) x) (v.1, (x, v.2.1.2), v.2.2) W := by
  obtain ⟨⟨r1, r1a⟩, r2, r3, ⟨r4, r5, r6, r7⟩, r8, r9, r10, r11, r12⟩ := H
  refine ⟨⟨(pk_un (by omega)).trans r1, r1a⟩, fun k hk => (pk_un (by omega)).trans (r2 k hk), (pk_un (by omega)).trans r3, ⟨pk_us, (pk_un (by omega)).trans r5, (pk_un (by omega)).trans r6, (pk_un (by omega)).trans r7⟩, fun c hc => ?_, fun c r hc hr => (pk_un (by omega)).trans (r9 c r hc hr), fun l hl => ?_, fun m hm => ?_, fun k hk hT => (pk_un (by omega)).trans (r12 k hk hT)⟩
  · obtain ⟨q1, q2, q3, q4⟩ := r8 c hc
    exact ⟨(pk_un (by omega)).trans q1, (pk_un (by omega)).trans q2, (pk_un (by omega)).trans q3, (pk_un (by omega)).trans q4⟩
  · obtain ⟨q1, q2⟩ := r10 l hl
    have h5 := hv.2.1 l hl
    exact ⟨(pk_un (by omega)).trans q1, fun i hi => (pk_un (by omega)).trans (q2 i hi)⟩
  · obtain ⟨q1, q2⟩ := r11 m hm
    have h8 := hv.1
    have h12 := (hv.2.2 m hm).2.1
    exact ⟨(pk_un (by omega)).trans q1, fun i hi => (pk_un (by omega)).trans (q2 i hi)⟩
theorem RS.trd {s : IF} {v : PV} {W : Nat} (H : RS s v W) (hv : WS v.2.2.1)  (x : Int32) : RS (upd s (6) x) (v.1, (v.2.1.1, x, v.2.1.2.2), v.2.2) W := by
  obtain ⟨⟨r1, r1a⟩, r2, r3, ⟨r4, r5, r6, r7⟩, r8, r9, r10, r11, r12⟩ := H
  refine ⟨⟨(pk_un (by omega)).trans r1, r1a⟩, fun k hk => (pk_un (by omega)).trans (r2 k hk), (pk_un (by omega)).trans r3, ⟨(pk_un (by omega)).trans r4, pk_us, (pk_un (by omega)).trans r6, (pk_un (by omega)).trans r7⟩, fun c hc => ?_, fun c r hc hr => (pk_un (by omega)).trans (r9 c r hc hr), fun l hl => ?_, fun m hm => ?_, fun k hk hT => (pk_un (by omega)).trans (r12 k hk hT)⟩
  · obtain ⟨q1, q2, q3, q4⟩ := r8 c hc
    exact ⟨(pk_un (by omega)).trans q1, (pk_un (by omega)).trans q2, (pk_un (by omega)).trans q3, (pk_un (by omega)).trans q4⟩
  · obtain ⟨q1, q2⟩ := r10 l hl
    have h5 := hv.2.1 l hl
    exact ⟨(pk_un (by omega)).trans q1, fun i hi => (pk_un (by omega)).trans (q2 i hi)⟩
  · obtain ⟨q1, q2⟩ := r11 m hm
    have h8 := hv.1
    have h12 := (hv.2.2 m hm).2.1
    exact ⟨(pk_un (by omega)).trans q1, fun i hi => (pk_un (by omega)).trans (q2 i hi)⟩
theorem RS.aim {s s' : IF} {v : PV} {W : Nat} (H : RS s v W) (hv : WS v.2.2.1) {p : IF} (e : ∀ k, k < 49 ∨ 89 ≤ k → s' k = s k) (f : ∀ c, c < 40 → s' (49 + c) = p c) : RS s' (aimD v p, v.2) W := by
  obtain ⟨⟨r1, r1a⟩, r2, r3, ⟨r4, r5, r6, r7⟩, r8, r9, r10, r11, r12⟩ := H
  refine ⟨⟨(e _ (by omega)).trans r1, r1a⟩, fun k hk => (e _ (by omega)).trans (r2 k hk), (e _ (by omega)).trans r3, ⟨(e _ (by omega)).trans r4, (e _ (by omega)).trans r5, (e _ (by omega)).trans r6, (e _ (by omega)).trans r7⟩, fun c hc => ?_, fun c r hc hr => (e _ (by omega)).trans (r9 c r hc hr), fun l hl => ?_, fun m hm => ?_, fun k hk hT => (e _ (by omega)).trans (r12 k hk hT)⟩
  · obtain ⟨q1, q2, q3, q4⟩ := r8 c hc
    exact ⟨(e _ (by omega)).trans q1, f c hc, (e _ (by omega)).trans q3, (e _ (by omega)).trans q4⟩
  · obtain ⟨q1, q2⟩ := r10 l hl
    exact ⟨(e _ (by omega)).trans q1, fun i hi => (e _ (by omega)).trans (q2 i hi)⟩
  · obtain ⟨q1, q2⟩ := r11 m hm
    exact ⟨(e _ (by omega)).trans q1, fun i hi => (e _ (by omega)).trans (q2 i hi)⟩
theorem RS.beg {s s' : IF} {v : PV} {W c : Nat} (H : RS s v W) (hv : WS v.2.2.1) (hc : 6 ≤ c ∧ c ≤ 40) (e0 : s' 0 = nI c) (e : ∀ k, (1 ≤ k ∧ k < 5) ∨ (449 ≤ k ∧ k < 709) → s' k = s k) (f : ∀ k, 5 ≤ k → k < 449 → s' k = 0) : RS s' ((nI c, fun _ => 0, fun _ => 0, fun _ => 0, fun _ => 0, fun _ => 0), (0, 0, 0, 0, fun _ => 0), v.2.2) c := by
  obtain ⟨⟨r1, r1a⟩, r2, r3, ⟨r4, r5, r6, r7⟩, r8, r9, r10, r11, r12⟩ := H
  refine ⟨⟨e0, rfl, hc⟩, fun k hk => (e _ (by omega)).trans (r2 k hk), (e _ (by omega)).trans r3, ⟨f _ (by omega) (by omega), f _ (by omega) (by omega), f _ (by omega) (by omega), f _ (by omega) (by omega)⟩, fun c hc => ⟨f _ (by omega) (by omega), f _ (by omega) (by omega), f _ (by omega) (by omega), f _ (by omega) (by omega)⟩, fun c r hc hr => f _ (by omega) (by omega), fun l hl => ?_, fun m hm => ?_, fun k hk hT => absurd hT (Nat.not_lt_zero _)⟩
  · obtain ⟨q1, q2⟩ := r10 l hl
    have h5 := hv.2.1 l hl
    exact ⟨(e _ (by omega)).trans q1, fun i hi => (e _ (by have hi' : i < v.2.2.1.2.1 l := hi; omega)).trans (q2 i hi)⟩
  · obtain ⟨q1, q2⟩ := r11 m hm
    have h8 := hv.1
    have hm' : m < v.2.2.1.2.2.2.2 := hm
    have h12 := (hv.2.2 m hm).2.1
    exact ⟨(e _ (by omega)).trans q1, fun i hi => (e _ (by have hi' : i < v.2.2.1.2.2.2.1 m := hi; omega)).trans (q2 i hi)⟩
theorem mk_bit : ∀ k, k < 128 → ∀ i, i < 7 → (nI k >>> (nI i &&& 31)) &&& 1 = bI (¬ nI k &&& mk i = 0) := by decide +kernel
theorem B7.bit {x : Int32} (h : B7 x) {i : Nat} (hi : i < 7) : (x >>> (nI i &&& 31)) &&& 1 = bI (¬ x &&& mk i = 0) := by
  obtain ⟨k, hk, rfl⟩ := h.ex
  exact mk_bit k hk i hi
theorem bI_1 {p : Prop} [Decidable p] : bI p = 1 ↔ p := by
  by_cases h : p
  · rw [bI_t h]; exact ⟨fun _ => h, fun _ => rfl⟩
  · rw [bI_f h]; exact ⟨fun q => absurd q (by decide), fun q => absurd q h⟩
theorem HQ.n {h : HP} {y : Nat} {s : IF} {B : FV} {W P o : Nat} (H : HQ h y s B W P o) : ∃ ps ty sp om, HN h y s ps ty sp om := by
  obtain ⟨pa, sp, om, a, h1, -⟩ := H
  exact ⟨_, _, _, _, h1⟩
abbrev PM (y : Nat) (h : HP) (q : Int32 × FV) : Option Value → HP → Prop := fun r h' => r = some (.int q.1) ∧ (∃ W P o, HR h' y q.2 W P o) ∧ Sm y (y + 13) h h'
