/-! what the law's own arrays hold of a state -/
/-- behind the width all is dark -/
def ZW (v : PV) (W : Nat) : Prop := ∀ c, W ≤ c → c < 40 → v.1.2.1 c = 0 ∧ v.1.2.2.1 c = 0 ∧ v.1.2.2.2.1 c = 0 ∧ v.1.2.2.2.2.1 c = 0
def LB (b : IF) (v : PV) (W : Nat) : Prop := ∀ c, c < W → b c = v.1.2.1 c ∧ b (16 + c) = v.1.2.2.1 c ∧ b (32 + c) = v.1.2.2.2.1 c ∧ b (48 + c) = v.1.2.2.2.2.1 c
abbrev YF (v : PV) (c : Nat) (y : Nat → Nat) : Prop := ∀ r, r < 7 → v.1.2.2.2.2.2 (c * 7 + r) = nI (y r) ∧ y r ≤ 200 ∧ (v.1.2.2.2.1 c &&& mk r = 0 → y r < 200)
def LF (f : Nat → Int64) (v : PV) (W : Nat) : Prop := ∀ c, c < W → ∃ y : Nat → Nat, f c = lN (pkF y) ∧ YF v c y
def LG (g : IF) (v : PV) (W P o M : Nat) : Prop := (g 0 = nI W ∧ g 1 = nI P ∧ g 2 = nI o ∧ g 3 = nI M) ∧ (v.2.2.2 2 = nI M ∧ 1 ≤ M ∧ M ≤ 200) ∧ (g 4 = v.2.1.1 ∧ g 5 = v.2.1.2.1 ∧ g 6 = v.2.1.2.2.1 ∧ g 7 = nI v.2.1.2.2.2.1) ∧ ∀ k, 1 ≤ k → k ≤ 20 → k ≤ v.2.1.2.2.2.1 → g (7 + k) = v.2.1.2.2.2.2 ((v.2.1.2.2.2.1 - k) % 20)
def LL (l : IF) (S : SV) : Prop := ∀ a, a < 4 → l (6 * a) = nI (S.2.1 a) ∧ ∀ i, i < S.2.1 a → l (6 * a + 1 + i) = S.1 (a * 5 + i)
def LM (m : IF) (S : SV) : Prop := (m 60 = nI S.2.2.2.2 ∧ S.2.2.2.2 ≤ 4) ∧ ∀ k, k < S.2.2.2.2 → (m (13 * k) = nI (S.2.2.2.1 k) ∧ 1 ≤ S.2.2.2.1 k ∧ S.2.2.2.1 k ≤ 2) ∧ ∀ i, i < S.2.2.2.1 k → m (13 * k + 1 + i) = nI (S.2.2.1 (k * 12 + i)) ∧ (S.2.2.1 (k * 12 + i) < 4 ∨ S.2.2.1 (k * 12 + i) = 26)
/-- the law's arrays lie behind the board -/
def HL (h : HP) (g b : IF) (f : Nat → Int64) (l m : IF) : Prop := h 189 = some (cI 28 g) ∧ h 190 = some (cI 64 b) ∧ h 191 = some (cL 16 f) ∧ h 192 = some (cI 24 l) ∧ h 193 = some (cI 61 m)
/-- the dots' part -/
def LD (g b : IF) (f : Nat → Int64) (v : PV) (W P o M : Nat) : Prop := (VW v W P o ∧ W ≤ 14 ∧ ZW v W) ∧ LG g v W P o M ∧ LB b v W ∧ LF f v W
theorem VW.kp {v v' : PV} {W P o : Nat} (H : VW v W P o) (k : KP v v') (hB : BO v') : VW v' W P o := by
  obtain ⟨h1, h2, h3, h4, h5, h6⟩ := H
  obtain ⟨k1, k2, k3⟩ := k
  exact ⟨k1.trans h1, h2, by rw [k2]; exact h3, by rw [k2]; exact h4, by rw [k2]; exact h5, hB⟩
section LREL
variable {v : PV} {W P o M : Nat} {g b : IF} {f : Nat → Int64}
theorem ZW.shown (H : ZW v W) {j : Nat} (hj : j < W) (x : Int32) : ZW ((v.1.1, upd v.1.2.1 j x, v.1.2.2), v.2) W := fun c h1 h2 => by
  obtain ⟨q1, q2, q3, q4⟩ := H c h1 h2
  exact ⟨(pk_un (by omega)).trans q1, q2, q3, q4⟩
theorem ZW.stuck (H : ZW v W) {j : Nat} (hj : j < W) (x : Int32) : ZW ((v.1.1, v.1.2.1, v.1.2.2.1, upd v.1.2.2.2.1 j x, v.1.2.2.2.2), v.2) W := fun c h1 h2 => by
  obtain ⟨q1, q2, q3, q4⟩ := H c h1 h2
  exact ⟨q1, q2, (pk_un (by omega)).trans q3, q4⟩
theorem ZW.known (H : ZW v W) {j : Nat} (hj : j < W) (x : Int32) : ZW ((v.1.1, v.1.2.1, v.1.2.2.1, v.1.2.2.2.1, upd v.1.2.2.2.2.1 j x, v.1.2.2.2.2.2), v.2) W := fun c h1 h2 => by
  obtain ⟨q1, q2, q3, q4⟩ := H c h1 h2
  exact ⟨q1, q2, q3, (pk_un (by omega)).trans q4⟩
theorem tryF_ZW (H : ZW v W) {j : Nat} (hj : j < W) (i : Nat) : ZW (tryF v j i) W := by
  unfold tryF
  split
  · split
    · exact H.shown hj _
    · exact ZW.stuck (H.shown hj _) hj _
  · exact H.known hj _
theorem LB.shown (H : LB b v W) (hW : W ≤ 14) {j : Nat} (hj : j < W) (x : Int32) : LB (upd b j x) ((v.1.1, upd v.1.2.1 j x, v.1.2.2), v.2) W := fun c hc => by
  obtain ⟨q1, q2, q3, q4⟩ := H c hc
  refine ⟨?_, (pk_un (by omega)).trans q2, (pk_un (by omega)).trans q3, (pk_un (by omega)).trans q4⟩
  by_cases e : c = j
  · subst e
    exact pk_us.trans pk_us.symm
  · exact (pk_un e).trans (q1.trans (pk_un e).symm)
theorem LB.stuck (H : LB b v W) (hW : W ≤ 14) {j : Nat} (hj : j < W) (x : Int32) : LB (upd b (32 + j) x) ((v.1.1, v.1.2.1, v.1.2.2.1, upd v.1.2.2.2.1 j x, v.1.2.2.2.2), v.2) W := fun c hc => by
  obtain ⟨q1, q2, q3, q4⟩ := H c hc
  refine ⟨(pk_un (by omega)).trans q1, (pk_un (by omega)).trans q2, ?_, (pk_un (by omega)).trans q4⟩
  by_cases e : c = j
  · subst e
    exact pk_us.trans pk_us.symm
  · exact (pk_un (by omega)).trans (q3.trans (pk_un e).symm)
theorem LB.known (H : LB b v W) (hW : W ≤ 14) {j : Nat} (hj : j < W) (x : Int32) : LB (upd b (48 + j) x) ((v.1.1, v.1.2.1, v.1.2.2.1, v.1.2.2.2.1, upd v.1.2.2.2.2.1 j x, v.1.2.2.2.2.2), v.2) W := fun c hc => by
  obtain ⟨q1, q2, q3, q4⟩ := H c hc
  refine ⟨(pk_un (by omega)).trans q1, (pk_un (by omega)).trans q2, (pk_un (by omega)).trans q3, ?_⟩
  by_cases e : c = j
  · subst e
    exact pk_us.trans pk_us.symm
  · exact (pk_un (by omega)).trans (q4.trans (pk_un e).symm)
theorem LB.ext {b' : IF} (H : LB b v W) (e : ∀ k, b' k = b k) : LB b' v W := fun c hc => by
  obtain ⟨q1, q2, q3, q4⟩ := H c hc
  exact ⟨(e _).trans q1, (e _).trans q2, (e _).trans q3, (e _).trans q4⟩
theorem or_mk : ∀ k, k < 128 → ∀ r, r < 7 → ∀ s, s < 7 → (nI k ||| mk r) &&& mk s = 0 → nI k &&& mk s = 0 := by decide +kernel
theorem or_mk2 : ∀ k, k < 128 → ∀ r, r < 7 → ¬ (nI k ||| mk r) &&& mk r = 0 := by decide +kernel
theorem an_mk : ∀ k, k < 128 → ∀ r, r < 7 → ∀ s, s < 7 → ¬ s = r → (nI k &&& (mk r ^^^ (-1))) &&& mk s = 0 → nI k &&& mk s = 0 := by decide +kernel
theorem B7.orm {x : Int32} (h : B7 x) {r s : Nat} (hr : r < 7) (hs : s < 7) (e : (x ||| mk r) &&& mk s = 0) : x &&& mk s = 0 ∧ ¬ s = r := by
  obtain ⟨k, hk, rfl⟩ := h.ex
  exact ⟨or_mk k hk r hr s hs e, fun q => or_mk2 k hk r hr (by rw [q] at e; exact e)⟩
theorem B7.anm {x : Int32} (h : B7 x) {r s : Nat} (hr : r < 7) (hs : s < 7) (hn : ¬ s = r) (e : (x &&& (mk r ^^^ (-1))) &&& mk s = 0) : x &&& mk s = 0 := by
  obtain ⟨k, hk, rfl⟩ := h.ex
  exact an_mk k hk r hr s hs hn e
theorem i_or_0 (x : Int32) : x ||| 0 = x := by
  apply Int32.toBitVec_inj.mp
  rw [Int32.toBitVec_or]
  exact BitVec.or_zero
theorem YF.le {c : Nat} {y : Nat → Nat} (H : YF v c y) : ∀ i, i < 7 → y i ≤ 255 := fun i hi => by
  have := (H i hi).2.1
  omega
/-- a state's counts, one of them put anew -/
theorem LF.put {v' : PV} {c r q : Nat} {y : Nat → Nat} (H : LF f v W) (hr : r < 7) (hy : YF v c y)
    (e1 : ∀ d s, d < W → s < 7 → ¬ (d = c ∧ s = r) → v'.1.2.2.2.2.2 (d * 7 + s) = v.1.2.2.2.2.2 (d * 7 + s)) (e2 : v'.1.2.2.2.2.2 (c * 7 + r) = nI q) (hq : q ≤ 200) (e3 : v'.1.2.2.2.1 c &&& mk r = 0 → q < 200)
    (e4 : ∀ d, d < W → ¬ d = c → v'.1.2.2.2.1 d = v.1.2.2.2.1 d) (e5 : ∀ s, s < 7 → ¬ s = r → v'.1.2.2.2.1 c &&& mk s = 0 → v.1.2.2.2.1 c &&& mk s = 0) : LF (vp_updL f c (lN (pkF (updN y r q)))) v' W := fun d hd => by
  by_cases e : d = c
  · subst e
    refine ⟨updN y r q, vpL_s, fun s hs => ?_⟩
    by_cases e6 : s = r
    · subst e6
      rw [updN_eq]
      exact ⟨e2, hq, e3⟩
    · rw [updN_ne _ _ e6]
      obtain ⟨g1, g2, g3⟩ := hy s hs
      exact ⟨(e1 d s hd hs (fun z => e6 z.2)).trans g1, g2, fun z => g3 (e5 s hs e6 z)⟩
  · obtain ⟨y', h1, h2⟩ := H d hd
    refine ⟨y', (vpL_n e).trans h1, fun s hs => ?_⟩
    obtain ⟨g1, g2, g3⟩ := h2 s hs
    exact ⟨(e1 d s hd hs (fun z => e z.1)).trans g1, g2, fun z => g3 (by rw [← e4 d hd e]; exact z)⟩
theorem LF.same {v' : PV} (H : LF f v W) (e1 : v'.1.2.2.2.2.2 = v.1.2.2.2.2.2) (e2 : ∀ d s, d < W → s < 7 → v'.1.2.2.2.1 d &&& mk s = 0 → v.1.2.2.2.1 d &&& mk s = 0) : LF f v' W := fun d hd => by
  obtain ⟨y', h1, h2⟩ := H d hd
  refine ⟨y', h1, fun s hs => ?_⟩
  obtain ⟨g1, g2, g3⟩ := h2 s hs
  exact ⟨by rw [e1]; exact g1, g2, fun z => g3 (e2 d s hd hs z)⟩
theorem LG.flip {v' : PV} (H : LG g v W P o M) (e1 : v'.2.2 = v.2.2) (e2 : v'.2.1 = (v.2.1.1 + 1, v.2.1.2)) : LG (upd g 4 (g 4 + 1)) v' W P o M := by
  obtain ⟨⟨a1, a2, a3, a4⟩, ⟨b1, b2, b3⟩, ⟨c1, c2, c3, c4⟩, d⟩ := H
  refine ⟨⟨(pk_un (by omega)).trans a1, (pk_un (by omega)).trans a2, (pk_un (by omega)).trans a3, (pk_un (by omega)).trans a4⟩, ⟨by rw [e1]; exact b1, b2, b3⟩, ?_, ?_⟩
  · rw [e2]
    exact ⟨by rw [pk_us, c1], (pk_un (by omega)).trans c2, (pk_un (by omega)).trans c3, (pk_un (by omega)).trans c4⟩
  · rw [e2]
    exact fun k h1 h2 h3 => (pk_un (by omega)).trans (d k h1 h2 h3)
theorem LG.tried {v' : PV} (H : LG g v W P o M) (e1 : v'.2.2 = v.2.2) (e2 : v'.2.1 = (v.2.1.1, v.2.1.2.1 + 1, v.2.1.2.2)) : LG (upd g 5 (g 5 + 1)) v' W P o M := by
  obtain ⟨⟨a1, a2, a3, a4⟩, ⟨b1, b2, b3⟩, ⟨c1, c2, c3, c4⟩, d⟩ := H
  refine ⟨⟨(pk_un (by omega)).trans a1, (pk_un (by omega)).trans a2, (pk_un (by omega)).trans a3, (pk_un (by omega)).trans a4⟩, ⟨by rw [e1]; exact b1, b2, b3⟩, ?_, ?_⟩
  · rw [e2]
    exact ⟨(pk_un (by omega)).trans c1, by rw [pk_us, c2], (pk_un (by omega)).trans c3, (pk_un (by omega)).trans c4⟩
  · rw [e2]
    exact fun k h1 h2 h3 => (pk_un (by omega)).trans (d k h1 h2 h3)
theorem LD.wk (H : LD g b f v W P o M) {c r : Nat} (hc : c < W) (hr : r < 7) : (VW (tryF v c r) W P o ∧ W ≤ 14 ∧ ZW (tryF v c r) W) := by
  obtain ⟨⟨h1, h2, h3⟩, -⟩ := H
  exact ⟨h1.kp (tryF_KP v c r) (tryF_BO h1.2.2.2.2.2 (by omega) hr), h2, tryF_ZW h3 hc r⟩
/-- a dot that isn't stuck: it is flipped, and may stick then -/
theorem LD.tryA (H : LD g b f v W P o M) {c r : Nat} {y : Nat → Nat} (hc : c < W) (hr : r < 7) (hs : v.1.2.2.2.1 c &&& mk r = 0) (hy : YF v c y) {z : Int32} (hz : z = if y r + 1 < M then 0 else mk r) :
    LD (upd g 4 (g 4 + 1)) (upd (upd b c (b c ^^^ mk r)) (32 + c) (upd b c (b c ^^^ mk r) (32 + c) ||| z)) (vp_updL f c (lN (pkF (updN y r (y r + 1))))) (tryF v c r) W P o M := by
  have hk := H.wk hc hr
  obtain ⟨⟨h1, h2, h3⟩, h4, h5, h6⟩ := H
  obtain ⟨-, ⟨m1, m2, m3⟩, -⟩ := id h4
  obtain ⟨y1, y2, y3⟩ := hy r hr
  have y4 := y3 hs
  have hB := (h1.2.2.2.2.2 c (by omega)).2.2.1
  have hsh : b c = v.1.2.1 c := (h5 c hc).1
  have hst : upd b c (b c ^^^ mk r) (32 + c) = v.1.2.2.2.1 c := (pk_un (by omega)).trans (h5 c hc).2.2.1
  have hcmp : v.1.2.2.2.2.2 (c * 7 + r) + 1 < v.2.2.2 2 ↔ y r + 1 < M := by
    rw [y1, m1, nI_1]
    exact nI_ltI (by omega) (by omega)
  have e0 : tryF v c r = (((v.1.1, upd v.1.2.1 c (v.1.2.1 c ^^^ mk r), v.1.2.2.1, (if v.1.2.2.2.2.2 (c * 7 + r) + 1 < v.2.2.2 2 then v.1.2.2.2.1 else upd v.1.2.2.2.1 c (v.1.2.2.2.1 c ||| mk r)), v.1.2.2.2.2.1, upd v.1.2.2.2.2.2 (c * 7 + r) (v.1.2.2.2.2.2 (c * 7 + r) + 1)) : DV), ((v.2.1.1 + 1, v.2.1.2) : MV), v.2.2) := by rw [tryF, if_pos hs]
  refine ⟨hk, ?_, ?_, ?_⟩
  · rw [e0]
    exact h4.flip rfl rfl
  · rw [e0, hst, hsh]
    by_cases q : y r + 1 < M
    · rw [if_pos (hcmp.mpr q), hz, if_pos q, i_or_0]
      refine LB.ext (LB.shown h5 h2 hc (v.1.2.1 c ^^^ mk r)) (fun k => ?_)
      by_cases e : k = 32 + c
      · subst e
        rw [pk_us, ← hsh]
        exact hst.symm
      · rw [pk_un e]
    · rw [if_neg (fun w => q (hcmp.mp w)), hz, if_neg q]
      exact LB.stuck (LB.shown h5 h2 hc (v.1.2.1 c ^^^ mk r)) h2 hc (v.1.2.2.2.1 c ||| mk r)
  · rw [e0]
    refine h6.put hr hy (fun d s hd hs' hn => pk_un (by omega)) (by show upd v.1.2.2.2.2.2 (c * 7 + r) (v.1.2.2.2.2.2 (c * 7 + r) + 1) (c * 7 + r) = _; rw [pk_us, y1, nI_1]) (by omega) (fun z => ?_) (fun d hd hn => ?_) (fun s hs' hn z => ?_)
    · by_cases q : y r + 1 < M
      · omega
      · replace z : (if v.1.2.2.2.2.2 (c * 7 + r) + 1 < v.2.2.2 2 then v.1.2.2.2.1 else upd v.1.2.2.2.1 c (v.1.2.2.2.1 c ||| mk r)) c &&& mk r = 0 := z
        rw [if_neg (fun w => q (hcmp.mp w)), pk_us] at z
        exact absurd rfl (hB.orm hr hr z).2
    · show (if v.1.2.2.2.2.2 (c * 7 + r) + 1 < v.2.2.2 2 then v.1.2.2.2.1 else upd v.1.2.2.2.1 c (v.1.2.2.2.1 c ||| mk r)) d = _
      split
      · rfl
      · exact pk_un hn
    · replace z : (if v.1.2.2.2.2.2 (c * 7 + r) + 1 < v.2.2.2 2 then v.1.2.2.2.1 else upd v.1.2.2.2.1 c (v.1.2.2.2.1 c ||| mk r)) c &&& mk s = 0 := z
      split at z
      · exact z
      · rw [pk_us] at z
        exact (hB.orm hr hs' z).1
/-- a stuck dot is found so -/
theorem LD.tryC (H : LD g b f v W P o M) {c r : Nat} (hc : c < W) (hr : r < 7) (hs : ¬ v.1.2.2.2.1 c &&& mk r = 0) : LD (upd g 5 (g 5 + 1)) (upd b (48 + c) (b (48 + c) ||| mk r)) f (tryF v c r) W P o M := by
  have hk := H.wk hc hr
  obtain ⟨⟨h1, h2, h3⟩, h4, h5, h6⟩ := H
  have e0 : tryF v c r = (((v.1.1, v.1.2.1, v.1.2.2.1, v.1.2.2.2.1, upd v.1.2.2.2.2.1 c (v.1.2.2.2.2.1 c ||| mk r), v.1.2.2.2.2.2) : DV), ((v.2.1.1, v.2.1.2.1 + 1, v.2.1.2.2) : MV), v.2.2) := by rw [tryF, if_neg hs]
  refine ⟨hk, ?_, ?_, ?_⟩
  · rw [e0]
    exact h4.tried rfl rfl
  · rw [e0, (h5 c hc).2.2.2]
    exact h5.known h2 hc _
  · rw [e0]
    exact h6.same rfl (fun d s hd hs z => z)
end LREL
