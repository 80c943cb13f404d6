section AMORE
variable {X : CX} {own : String} {bytes : ByteArray} {ret : Option FieldType} {fr lo mc ms n1 : Nat} {post : Option Value → HP → Prop} {n k sl pc : Nat} {h : HP} {L : List (Option Value)} {st st0 : List Value}
variable {y : MethodName} {b' : ByteArray} {nL' np : Nat} {ret' : Option FieldType} {fr' lo' ix a ci : Nat} {As fs : List Value} {post' : Option Value → HP → Prop} {C : String} {T : u_T} {N : Nat}
abbrev PR (r : Value) (h : HP) : Option Value → HP → Prop := fun v h' => v = some r ∧ h' = h
theorem aw_ialdN (hX : Cx X own bytes ret fr lo mc ms n1 post) (j : Nat) {f : Nat → Int32} {i : Int32} (hh : h a = some (cI N f)) (hi : i = nI j) (hj : j < N) (hN : N < 2 ^ 31) (hdg : decode bytes pc = .ok (.iaload, 1)) (kk : AW X n h k sl (pc + 1) L (.int (f j) :: st)) : AW X n h k sl pc L (.int i :: .ref a :: st) := by
  subst hi
  refine aw_iald hX hh (vp_in_nI hj hN) hdg ?_
  rw [nI_clamp (Nat.lt_trans hj hN)]
  exact kk
theorem aw_iastN (hX : Cx X own bytes ret fr lo mc ms n1 post) (j : Nat) {f : Nat → Int32} {i x : Int32} (hh : h a = some (cI N f)) (hi : i = nI j) (hj : j < N) (hN : N < 2 ^ 31) (hdg : decode bytes pc = .ok (.iastore, 1)) (kk : AW X n (hset h a (cI N (upd f j x))) k sl (pc + 1) L st) : AW X n h k sl pc L (.int x :: .int i :: .ref a :: st) := by
  subst hi
  refine aw_iast hX hh (vp_in_nI hj hN) hdg ?_
  rw [nI_clamp (Nat.lt_trans hj hN)]
  exact kk
theorem aw_laldN (hX : Cx X own bytes ret fr lo mc ms n1 post) (j : Nat) {f : Nat → Int64} {i : Int32} (hh : h a = some (cL N f)) (hi : i = nI j) (hj : j < N) (hN : N < 2 ^ 31) (hdg : decode bytes pc = .ok (.laload, 1)) (kk : AW X n h k sl (pc + 1) L (.long (f j) :: st)) : AW X n h k sl pc L (.int i :: .ref a :: st) := by
  subst hi
  refine aw_lald hX hh (vp_in_nI hj hN) hdg ?_
  rw [nI_clamp (Nat.lt_trans hj hN)]
  exact kk
theorem aw_lastN (hX : Cx X own bytes ret fr lo mc ms n1 post) (j : Nat) {f : Nat → Int64} {i : Int32} {x : Int64} (hh : h a = some (cL N f)) (hi : i = nI j) (hj : j < N) (hN : N < 2 ^ 31) (hdg : decode bytes pc = .ok (.lastore, 1)) (kk : AW X n (hset h a (cL N (vp_updL f j x))) k sl (pc + 1) L st) : AW X n h k sl pc L (.long x :: .int i :: .ref a :: st) := by
  subst hi
  refine aw_last hX hh (vp_in_nI hj hN) hdg ?_
  rw [nI_clamp (Nat.lt_trans hj hN)]
  exact kk
theorem aw_aaldN (hX : Cx X own bytes ret fr lo mc ms n1 post) (j : Nat) {t b : Nat} {g : Nat → Option Nat} {i : Int32} (hh : h a = some (cG t N g)) (ht : t = 1 ∨ t = 2) (hi : i = nI j) (hj : j < N) (hN : N < 2 ^ 31) (hb : g j = some b) (hdg : decode bytes pc = .ok (.aaload, 1)) (kk : AW X n h k sl (pc + 1) L (.ref b :: st)) : AW X n h k sl pc L (.int i :: .ref a :: st) := by
  subst hi
  exact aw_aald hX hh ht (vp_in_nI hj hN) (by rw [nI_clamp (Nat.lt_trans hj hN)]; exact hb) hdg kk
theorem aw_roaldN (hX : Cx X own bytes ret fr lo mc ms n1 post) (j : Nat) {i : Int32} (ha : a < 5) (hi : i = nI j) (hj : j < eN X.E a) (hN : eN X.E a < 2 ^ 31) (hdg : decode bytes pc = .ok (.iaload, 1)) (kk : AW X n h k sl (pc + 1) L (.int (eF X.E a j) :: st)) : AW X n h k sl pc L (.int i :: .ref a :: st) := by
  subst hi
  refine aw_roald hX ha (vp_in_nI hj hN) hdg ?_
  rw [nI_clamp (Nat.lt_trans hj hN)]
  exact kk

theorem aw_callV0 (hX : Cx X own bytes ret fr lo mc ms n1 post) (own2 : String) (ho : own2 = own) (hM : AM X.l y b' nL' ret' fr' lo' 0 0 X.E n h (.ref a :: As) post') (hst0 : As.reverse ++ .ref a :: st = st0) (hy : MF y b' nL' ret' np) (hi : Cond.instanceMethod y ∈ tbG) (hsel : Cond.selects y.cls y y ∈ tbG) (hlink : Cond.methodLink own2 ix y ∈ tbG) (hh : h a = some (cO ci fs)) (hcl : vwCl[ci]? = some (y.cls, T, N)) (hnp : As.length = np) (hR : fr' + 1 ≤ fr ∧ 8 + (nL' + 11) + lo' ≤ lo) (hst : (st.map fun v => v.category).sum ≤ 8) (hdg : decode bytes pc = .ok (.invokevirtual ix, 3)) (hf : k ≤ mc ∧ sl ≤ ms) (kk : ∀ v h', post' v h' → AW X n h' k sl (pc + 3) L (v.toList ++ st)) : AW X n h k sl pc L st0 :=
  aw_callV hX own2 ho hM hst0 hy hi hsel hlink hh hcl hnp hR hst hdg hf kk
theorem aw_callVp (hX : Cx X own bytes ret fr lo mc ms n1 post) (own2 : String) (ho : own2 = own) {r : Value} (hM : AM X.l y b' nL' ret' fr' lo' 0 0 X.E n h (.ref a :: As) (PR r h)) (hst0 : As.reverse ++ .ref a :: st = st0) (hy : MF y b' nL' ret' np) (hi : Cond.instanceMethod y ∈ tbG) (hsel : Cond.selects y.cls y y ∈ tbG) (hlink : Cond.methodLink own2 ix y ∈ tbG) (hh : h a = some (cO ci fs)) (hcl : vwCl[ci]? = some (y.cls, T, N)) (hnp : As.length = np) (hR : fr' + 1 ≤ fr ∧ 8 + (nL' + 11) + lo' ≤ lo) (hst : (st.map fun v => v.category).sum ≤ 8) (hdg : decode bytes pc = .ok (.invokevirtual ix, 3)) (hf : k ≤ mc ∧ sl ≤ ms) (kk : AW X n h k sl (pc + 3) L (r :: st)) : AW X n h k sl pc L st0 :=
  aw_callV hX own2 ho hM hst0 hy hi hsel hlink hh hcl hnp hR hst hdg hf (fun v h' hp => by obtain ⟨rfl, rfl⟩ := hp; exact kk)
theorem aw_callVN0 (hX : Cx X own bytes ret fr lo mc ms n1 post) (own2 host : String) (ho : own2 = own) (hM : AM X.l y b' nL' ret' fr' lo' 0 0 X.E n h (.ref a :: As) post') (hst0 : As.reverse ++ .ref a :: st = st0) (hy : MF y b' nL' ret' np) (hi : Cond.instanceMethod y ∈ tbG) (hsel : Cond.selects y.cls y y ∈ tbG) (hlink : Cond.methodLinkNest own2 ix y host ∈ lw_tbl) (hh : h a = some (cO ci fs)) (hcl : vwCl[ci]? = some (y.cls, T, N)) (hnp : As.length = np) (hR : fr' + 1 ≤ fr ∧ 8 + (nL' + 11) + lo' ≤ lo) (hst : (st.map fun v => v.category).sum ≤ 8) (hdg : decode bytes pc = .ok (.invokevirtual ix, 3)) (hf : k ≤ mc ∧ sl ≤ ms) (kk : ∀ v h', post' v h' → AW X n h' k sl (pc + 3) L (v.toList ++ st)) : AW X n h k sl pc L st0 :=
  aw_callVN hX own2 host ho hM hst0 hy hi hsel hlink hh hcl hnp hR hst hdg hf kk
theorem aw_callVNp (hX : Cx X own bytes ret fr lo mc ms n1 post) (own2 host : String) (ho : own2 = own) {r : Value} (hM : AM X.l y b' nL' ret' fr' lo' 0 0 X.E n h (.ref a :: As) (PR r h)) (hst0 : As.reverse ++ .ref a :: st = st0) (hy : MF y b' nL' ret' np) (hi : Cond.instanceMethod y ∈ tbG) (hsel : Cond.selects y.cls y y ∈ tbG) (hlink : Cond.methodLinkNest own2 ix y host ∈ lw_tbl) (hh : h a = some (cO ci fs)) (hcl : vwCl[ci]? = some (y.cls, T, N)) (hnp : As.length = np) (hR : fr' + 1 ≤ fr ∧ 8 + (nL' + 11) + lo' ≤ lo) (hst : (st.map fun v => v.category).sum ≤ 8) (hdg : decode bytes pc = .ok (.invokevirtual ix, 3)) (hf : k ≤ mc ∧ sl ≤ ms) (kk : AW X n h k sl (pc + 3) L (r :: st)) : AW X n h k sl pc L st0 :=
  aw_callVN hX own2 host ho hM hst0 hy hi hsel hlink hh hcl hnp hR hst hdg hf (fun v h' hp => by obtain ⟨rfl, rfl⟩ := hp; exact kk)
theorem aw_callS0 (hX : Cx X own bytes ret fr lo mc ms n1 post) (own2 : String) (ho : own2 = own) (hM : AM X.l y b' nL' ret' fr' lo' 0 0 X.E n h As post') (hst0 : As.reverse ++ st = st0) (hy : MF y b' nL' ret' np) (hs : Cond.static y ∈ tbG) (hlink : Cond.methodLink own2 ix y ∈ tbG) (hnp : As.length = np) (hR : fr' + 1 ≤ fr ∧ 8 + (nL' + 11) + lo' ≤ lo) (hst : (st.map fun v => v.category).sum ≤ 8) (hdg : decode bytes pc = .ok (.invokestatic ix, 3)) (hf : k ≤ mc ∧ sl ≤ ms) (kk : ∀ v h', post' v h' → AW X n h' k sl (pc + 3) L (v.toList ++ st)) : AW X n h k sl pc L st0 :=
  aw_callS hX own2 ho hM hst0 hy hs hlink hnp hR hst hdg hf kk
theorem aw_callSp (hX : Cx X own bytes ret fr lo mc ms n1 post) (own2 : String) (ho : own2 = own) {r : Value} (hM : AM X.l y b' nL' ret' fr' lo' 0 0 X.E n h As (PR r h)) (hst0 : As.reverse ++ st = st0) (hy : MF y b' nL' ret' np) (hs : Cond.static y ∈ tbG) (hlink : Cond.methodLink own2 ix y ∈ tbG) (hnp : As.length = np) (hR : fr' + 1 ≤ fr ∧ 8 + (nL' + 11) + lo' ≤ lo) (hst : (st.map fun v => v.category).sum ≤ 8) (hdg : decode bytes pc = .ok (.invokestatic ix, 3)) (hf : k ≤ mc ∧ sl ≤ ms) (kk : AW X n h k sl (pc + 3) L (r :: st)) : AW X n h k sl pc L st0 :=
  aw_callS hX own2 ho hM hst0 hy hs hlink hnp hR hst hdg hf (fun v h' hp => by obtain ⟨rfl, rfl⟩ := hp; exact kk)
theorem aw_callSN0 (hX : Cx X own bytes ret fr lo mc ms n1 post) (own2 host : String) (ho : own2 = own) (hM : AM X.l y b' nL' ret' fr' lo' 0 0 X.E n h As post') (hst0 : As.reverse ++ st = st0) (hy : MF y b' nL' ret' np) (hs : Cond.static y ∈ tbG) (hlink : Cond.methodLinkNest own2 ix y host ∈ lw_tbl) (hnp : As.length = np) (hR : fr' + 1 ≤ fr ∧ 8 + (nL' + 11) + lo' ≤ lo) (hst : (st.map fun v => v.category).sum ≤ 8) (hdg : decode bytes pc = .ok (.invokestatic ix, 3)) (hf : k ≤ mc ∧ sl ≤ ms) (kk : ∀ v h', post' v h' → AW X n h' k sl (pc + 3) L (v.toList ++ st)) : AW X n h k sl pc L st0 :=
  aw_callSN hX own2 host ho hM hst0 hy hs hlink hnp hR hst hdg hf kk
theorem aw_callSNp (hX : Cx X own bytes ret fr lo mc ms n1 post) (own2 host : String) (ho : own2 = own) {r : Value} (hM : AM X.l y b' nL' ret' fr' lo' 0 0 X.E n h As (PR r h)) (hst0 : As.reverse ++ st = st0) (hy : MF y b' nL' ret' np) (hs : Cond.static y ∈ tbG) (hlink : Cond.methodLinkNest own2 ix y host ∈ lw_tbl) (hnp : As.length = np) (hR : fr' + 1 ≤ fr ∧ 8 + (nL' + 11) + lo' ≤ lo) (hst : (st.map fun v => v.category).sum ≤ 8) (hdg : decode bytes pc = .ok (.invokestatic ix, 3)) (hf : k ≤ mc ∧ sl ≤ ms) (kk : AW X n h k sl (pc + 3) L (r :: st)) : AW X n h k sl pc L st0 :=
  aw_callSN hX own2 host ho hM hst0 hy hs hlink hnp hR hst hdg hf (fun v h' hp => by obtain ⟨rfl, rfl⟩ := hp; exact kk)
end AMORE
/-- outside lo .. hi - 1 nothing has changed -/
def Sm (lo hi : Nat) (h h' : HP) : Prop := ∀ q, (q < lo ∨ hi ≤ q) → h' q = h q
theorem Sm.rf {lo hi : Nat} {h : HP} : Sm lo hi h h := fun _ _ => rfl
theorem Sm.set {lo hi a : Nat} {h h' : HP} {c : AC} (s : Sm lo hi h h') (h1 : lo ≤ a) (h2 : a < hi) : Sm lo hi h (hset h' a c) := fun q hq => (hset_ne h' c (by omega)).trans (s q hq)
theorem Sm.tr {lo hi lo' hi' : Nat} {h h1 h2 : HP} (s : Sm lo hi h h1) (t : Sm lo' hi' h1 h2) (g1 : lo ≤ lo') (g2 : hi' ≤ hi) : Sm lo hi h h2 := fun q hq => (t q (by omega)).trans (s q hq)
theorem Sm.at {lo hi : Nat} {h h' : HP} (s : Sm lo hi h h') {q : Nat} (hq : q < lo ∨ hi ≤ q) : h' q = h q := s q hq
theorem sw_cases (hi : Nat) (x : Int32) (hh : hi < 2 ^ 31) : (x.toInt < 0 ∨ (hi : Int) < x.toInt) ∨ ∃ j : Nat, j ≤ hi ∧ x = nI j := by
  by_cases h1 : x.toInt < 0
  · exact Or.inl (Or.inl h1)
  · by_cases h2 : (hi : Int) < x.toInt
    · exact Or.inl (Or.inr h2)
    · refine Or.inr ⟨x.toInt.toNat, by omega, Int32.toInt_inj.mp ?_⟩
      rw [nI_toInt (by omega)]
      omega
def bI (p : Prop) [Decidable p] : Int32 := if p then 1 else 0
theorem bI_t {p : Prop} [Decidable p] (h : p) : bI p = 1 := if_pos h
theorem bI_f {p : Prop} [Decidable p] (h : ¬ p) : bI p = 0 := if_neg h
theorem bI_01 (p : Prop) [Decidable p] : bI p = 0 ∨ bI p = 1 := by by_cases h : p <;> simp [bI, h]
theorem bI_eq0 {p : Prop} [Decidable p] : bI p = 0 ↔ ¬ p := by by_cases h : p <;> simp [bI, h]
theorem prT {p : Prop} [Decidable p] {h : HP} (q : p) : PR (.int (bI p)) h (some (.int 1)) h := ⟨by rw [bI_t q], rfl⟩
theorem prF {p : Prop} [Decidable p] {h : HP} (q : ¬ p) : PR (.int (bI p)) h (some (.int 0)) h := ⟨by rw [bI_f q], rfl⟩
def sumI (f : Nat → Int32) : Nat → Int32
  | 0 => 0
  | n + 1 => sumI f n + f n

abbrev MX0_init (l : Launch) (E : EV) (n : Nat) (h : HP) (As : List Value) (post : Option Value → HP → Prop) : Prop := AM l yX0_init cX0_init 1 none 1 20 5 440 E n h As post
abbrev MJ9_min_7cf53 (l : Launch) (E : EV) (n : Nat) (h : HP) (As : List Value) (post : Option Value → HP → Prop) : Prop := AM l yJ9_min_7cf53 cJ9_min_7cf53 2 (some .int) 0 0 0 0 E n h As post
abbrev MX9_copy (l : Launch) (E : EV) (n : Nat) (h : HP) (As : List Value) (post : Option Value → HP → Prop) : Prop := AM l yX9_copy cX9_copy 2 none 1 60 0 0 E n h As post
abbrev MX0_copyFrom (l : Launch) (E : EV) (n : Nat) (h : HP) (As : List Value) (post : Option Value → HP → Prop) : Prop := AM l yX0_copyFrom cX0_copyFrom 2 none 2 81 0 0 E n h As post
abbrev MJ7_fill_53178 (l : Launch) (E : EV) (n : Nat) (h : HP) (As : List Value) (post : Option Value → HP → Prop) : Prop := AM l yJ7_fill_53178 cJ7_fill_53178 4 none 0 0 0 0 E n h As post
abbrev MX0_renew (l : Launch) (E : EV) (n : Nat) (h : HP) (As : List Value) (post : Option Value → HP → Prop) : Prop := AM l yX0_renew cX0_renew 2 none 1 23 0 0 E n h As post
abbrev MX0_hasColumn (l : Launch) (E : EV) (n : Nat) (h : HP) (As : List Value) (post : Option Value → HP → Prop) : Prop := AM l yX0_hasColumn cX0_hasColumn 2 (some .boolean) 0 0 0 0 E n h As post
abbrev MX0_hasDot (l : Launch) (E : EV) (n : Nat) (h : HP) (As : List Value) (post : Option Value → HP → Prop) : Prop := AM l yX0_hasDot cX0_hasDot 3 (some .boolean) 1 21 0 0 E n h As post
abbrev MX0_aimAt (l : Launch) (E : EV) (n : Nat) (h : HP) (As : List Value) (post : Option Value → HP → Prop) : Prop := AM l yX0_aimAt cX0_aimAt 2 none 2 81 0 0 E n h As post
abbrev MX0_aimAtDark (l : Launch) (E : EV) (n : Nat) (h : HP) (As : List Value) (post : Option Value → HP → Prop) : Prop := AM l yX0_aimAtDark cX0_aimAtDark 1 none 1 23 0 0 E n h As post
abbrev MX0_dueBits (l : Launch) (E : EV) (n : Nat) (h : HP) (As : List Value) (post : Option Value → HP → Prop) : Prop := AM l yX0_dueBits cX0_dueBits 2 (some .int) 1 21 0 0 E n h As post
abbrev MJ6_bitCount_0f7a4 (l : Launch) (E : EV) (n : Nat) (h : HP) (As : List Value) (post : Option Value → HP → Prop) : Prop := AM l yJ6_bitCount_0f7a4 cJ6_bitCount_0f7a4 1 (some .int) 0 0 0 0 E n h As post
abbrev MX0_differing (l : Launch) (E : EV) (n : Nat) (h : HP) (As : List Value) (post : Option Value → HP → Prop) : Prop := AM l yX0_differing cX0_differing 6 (some .int) 1 20 0 0 E n h As post
abbrev MX0_dueDots (l : Launch) (E : EV) (n : Nat) (h : HP) (As : List Value) (post : Option Value → HP → Prop) : Prop := AM l yX0_dueDots cX0_dueDots 1 (some .int) 2 45 0 0 E n h As post
abbrev MX0_dotsIn (l : Launch) (E : EV) (n : Nat) (h : HP) (As : List Value) (post : Option Value → HP → Prop) : Prop := AM l yX0_dotsIn cX0_dotsIn 3 (some .int) 1 20 0 0 E n h As post
abbrev MX0_stuckDots (l : Launch) (E : EV) (n : Nat) (h : HP) (As : List Value) (post : Option Value → HP → Prop) : Prop := AM l yX0_stuckDots cX0_stuckDots 1 (some .int) 2 42 0 0 E n h As post
abbrev MX0_knownDots (l : Launch) (E : EV) (n : Nat) (h : HP) (As : List Value) (post : Option Value → HP → Prop) : Prop := AM l yX0_knownDots cX0_knownDots 1 (some .int) 2 42 0 0 E n h As post
abbrev MX0_otherDots (l : Launch) (E : EV) (n : Nat) (h : HP) (As : List Value) (post : Option Value → HP → Prop) : Prop := AM l yX0_otherDots cX0_otherDots 3 (some .int) 1 20 0 0 E n h As post
abbrev MX0_knownAgainst (l : Launch) (E : EV) (n : Nat) (h : HP) (As : List Value) (post : Option Value → HP → Prop) : Prop := AM l yX0_knownAgainst cX0_knownAgainst 5 (some .int) 1 20 0 0 E n h As post
abbrev MX0_isStuck (l : Launch) (E : EV) (n : Nat) (h : HP) (As : List Value) (post : Option Value → HP → Prop) : Prop := AM l yX0_isStuck cX0_isStuck 3 (some .boolean) 2 43 0 0 E n h As post
abbrev MX0_stick (l : Launch) (E : EV) (n : Nat) (h : HP) (As : List Value) (post : Option Value → HP → Prop) : Prop := AM l yX0_stick cX0_stick 3 none 2 43 0 0 E n h As post
abbrev MX0_makeKnown (l : Launch) (E : EV) (n : Nat) (h : HP) (As : List Value) (post : Option Value → HP → Prop) : Prop := AM l yX0_makeKnown cX0_makeKnown 3 none 2 43 0 0 E n h As post
abbrev MX0_flip (l : Launch) (E : EV) (n : Nat) (h : HP) (As : List Value) (post : Option Value → HP → Prop) : Prop := AM l yX0_flip cX0_flip 3 none 2 43 0 0 E n h As post
abbrev MX0_flipsOf (l : Launch) (E : EV) (n : Nat) (h : HP) (As : List Value) (post : Option Value → HP → Prop) : Prop := AM l yX0_flipsOf cX0_flipsOf 3 (some .int) 2 43 0 0 E n h As post
abbrev MX0_renewDot (l : Launch) (E : EV) (n : Nat) (h : HP) (As : List Value) (post : Option Value → HP → Prop) : Prop := AM l yX0_renewDot cX0_renewDot 3 none 2 43 0 0 E n h As post
abbrev MX1_init (l : Launch) (E : EV) (n : Nat) (h : HP) (As : List Value) (post : Option Value → HP → Prop) : Prop := AM l yX1_init cX1_init 1 none 1 20 1 40 E n h As post
abbrev MX1_arrangeByDueDots (l : Launch) (E : EV) (n : Nat) (h : HP) (As : List Value) (post : Option Value → HP → Prop) : Prop := AM l yX1_arrangeByDueDots cX1_arrangeByDueDots 6 none 2 42 0 0 E n h As post
abbrev MX1_arrange (l : Launch) (E : EV) (n : Nat) (h : HP) (As : List Value) (post : Option Value → HP → Prop) : Prop := AM l yX1_arrange cX1_arrange 4 none 3 67 0 0 E n h As post
abbrev MX8_tryDot (l : Launch) (E : EV) (n : Nat) (h : HP) (As : List Value) (post : Option Value → HP → Prop) : Prop := AM l yX8_tryDot cX8_tryDot 3 none 3 65 0 0 E n h As post
abbrev MX1_flipColumn (l : Launch) (E : EV) (n : Nat) (h : HP) (As : List Value) (post : Option Value → HP → Prop) : Prop := AM l yX1_flipColumn cX1_flipColumn 7 (some .int) 4 87 0 0 E n h As post
abbrev MJ9_floorMod_7cf53 (l : Launch) (E : EV) (n : Nat) (h : HP) (As : List Value) (post : Option Value → HP → Prop) : Prop := AM l yJ9_floorMod_7cf53 cJ9_floorMod_7cf53 3 (some .int) 0 0 0 0 E n h As post
abbrev MX3_addSecond (l : Launch) (E : EV) (n : Nat) (h : HP) (As : List Value) (post : Option Value → HP → Prop) : Prop := AM l yX3_addSecond cX3_addSecond 2 none 1 22 0 0 E n h As post
abbrev MX1_passSecond (l : Launch) (E : EV) (n : Nat) (h : HP) (As : List Value) (post : Option Value → HP → Prop) : Prop := AM l yX1_passSecond cX1_passSecond 6 none 5 113 0 0 E n h As post
abbrev MX3_init (l : Launch) (E : EV) (n : Nat) (h : HP) (As : List Value) (post : Option Value → HP → Prop) : Prop := AM l yX3_init cX3_init 1 none 1 20 1 20 E n h As post
abbrev MX7_init (l : Launch) (E : EV) (n : Nat) (h : HP) (As : List Value) (post : Option Value → HP → Prop) : Prop := AM l yX7_init cX7_init 1 none 1 20 4 260 E n h As post
abbrev MX8_init (l : Launch) (E : EV) (n : Nat) (h : HP) (As : List Value) (post : Option Value → HP → Prop) : Prop := AM l yX8_init cX8_init 1 none 2 40 14 739 E n h As post
abbrev MX2_init (l : Launch) (E : EV) (n : Nat) (h : HP) (As : List Value) (post : Option Value → HP → Prop) : Prop := AM l yX2_init cX2_init 2 none 3 60 91 4464 E n h As post
abbrev MX2_stateAt (l : Launch) (E : EV) (n : Nat) (h : HP) (As : List Value) (post : Option Value → HP → Prop) : Prop := AM l yX2_stateAt cX2_stateAt 2 (some (.object "FlipBoard$State")) 1 22 0 0 E n h As post
abbrev MX3_copyFrom (l : Launch) (E : EV) (n : Nat) (h : HP) (As : List Value) (post : Option Value → HP → Prop) : Prop := AM l yX3_copyFrom cX3_copyFrom 2 none 2 81 0 0 E n h As post
abbrev MX7_copyFrom (l : Launch) (E : EV) (n : Nat) (h : HP) (As : List Value) (post : Option Value → HP → Prop) : Prop := AM l yX7_copyFrom cX7_copyFrom 2 none 2 81 0 0 E n h As post
abbrev MX8_copyFrom (l : Launch) (E : EV) (n : Nat) (h : HP) (As : List Value) (post : Option Value → HP → Prop) : Prop := AM l yX8_copyFrom cX8_copyFrom 2 none 3 102 0 0 E n h As post
abbrev MX2_keep (l : Launch) (E : EV) (n : Nat) (h : HP) (As : List Value) (post : Option Value → HP → Prop) : Prop := AM l yX2_keep cX2_keep 3 none 4 123 0 0 E n h As post
abbrev MX3_renew (l : Launch) (E : EV) (n : Nat) (h : HP) (As : List Value) (post : Option Value → HP → Prop) : Prop := AM l yX3_renew cX3_renew 1 none 1 23 0 0 E n h As post
abbrev MX3_powerOf (l : Launch) (E : EV) (n : Nat) (h : HP) (As : List Value) (post : Option Value → HP → Prop) : Prop := AM l yX3_powerOf cX3_powerOf 2 (some .int) 1 22 0 0 E n h As post
abbrev MX4_init (l : Launch) (E : EV) (n : Nat) (h : HP) (As : List Value) (post : Option Value → HP → Prop) : Prop := AM l yX4_init cX4_init 1 none 1 20 48 518 E n h As post
abbrev MX7_hasMessage (l : Launch) (E : EV) (n : Nat) (h : HP) (As : List Value) (post : Option Value → HP → Prop) : Prop := AM l yX7_hasMessage cX7_hasMessage 2 (some .boolean) 0 0 0 0 E n h As post
abbrev MX7_lengthOf (l : Launch) (E : EV) (n : Nat) (h : HP) (As : List Value) (post : Option Value → HP → Prop) : Prop := AM l yX7_lengthOf cX7_lengthOf 2 (some .int) 1 21 0 0 E n h As post
abbrev MJ9_max_7cf53 (l : Launch) (E : EV) (n : Nat) (h : HP) (As : List Value) (post : Option Value → HP → Prop) : Prop := AM l yJ9_max_7cf53 cJ9_max_7cf53 2 (some .int) 0 0 0 0 E n h As post
abbrev MX7_characterOf (l : Launch) (E : EV) (n : Nat) (h : HP) (As : List Value) (post : Option Value → HP → Prop) : Prop := AM l yX7_characterOf cX7_characterOf 4 (some .int) 1 21 0 0 E n h As post
abbrev MX7_isLetter (l : Launch) (E : EV) (n : Nat) (h : HP) (As : List Value) (post : Option Value → HP → Prop) : Prop := AM l yX7_isLetter cX7_isLetter 2 (some .boolean) 0 0 0 0 E n h As post
abbrev MX7_widthOf (l : Launch) (E : EV) (n : Nat) (h : HP) (As : List Value) (post : Option Value → HP → Prop) : Prop := AM l yX7_widthOf cX7_widthOf 2 (some .int) 1 21 0 0 E n h As post
abbrev MX7_stripColumns (l : Launch) (E : EV) (n : Nat) (h : HP) (As : List Value) (post : Option Value → HP → Prop) : Prop := AM l yX7_stripColumns cX7_stripColumns 5 (some .int) 2 44 0 0 E n h As post
abbrev MX7_columnOf (l : Launch) (E : EV) (n : Nat) (h : HP) (As : List Value) (post : Option Value → HP → Prop) : Prop := AM l yX7_columnOf cX7_columnOf 4 (some .int) 1 21 0 0 E n h As post
abbrev MX7_stripBits (l : Launch) (E : EV) (n : Nat) (h : HP) (As : List Value) (post : Option Value → HP → Prop) : Prop := AM l yX7_stripBits cX7_stripBits 7 (some .int) 2 44 0 0 E n h As post
abbrev MX5_draw (l : Launch) (E : EV) (n : Nat) (h : HP) (As : List Value) (post : Option Value → HP → Prop) : Prop := AM l yX5_draw cX5_draw 9 none 3 70 0 0 E n h As post
abbrev MX5_init (l : Launch) (E : EV) (n : Nat) (h : HP) (As : List Value) (post : Option Value → HP → Prop) : Prop := AM l yX5_init cX5_init 1 none 1 20 2 80 E n h As post
abbrev MX5_bestShiftOf (l : Launch) (E : EV) (n : Nat) (h : HP) (As : List Value) (post : Option Value → HP → Prop) : Prop := AM l yX5_bestShiftOf cX5_bestShiftOf 12 (some .int) 4 98 0 0 E n h As post
abbrev MX5_drawAs (l : Launch) (E : EV) (n : Nat) (h : HP) (As : List Value) (post : Option Value → HP → Prop) : Prop := AM l yX5_drawAs cX5_drawAs 5 none 5 129 0 0 E n h As post
abbrev MX6_init (l : Launch) (E : EV) (n : Nat) (h : HP) (As : List Value) (post : Option Value → HP → Prop) : Prop := AM l yX6_init cX6_init 1 none 2 40 5 265 E n h As post
abbrev MX7_startMessage (l : Launch) (E : EV) (n : Nat) (h : HP) (As : List Value) (post : Option Value → HP → Prop) : Prop := AM l yX7_startMessage cX7_startMessage 1 none 0 0 0 0 E n h As post
abbrev MX7_putColumn (l : Launch) (E : EV) (n : Nat) (h : HP) (As : List Value) (post : Option Value → HP → Prop) : Prop := AM l yX7_putColumn cX7_putColumn 4 none 1 21 0 0 E n h As post
abbrev MX7_addCharacter (l : Launch) (E : EV) (n : Nat) (h : HP) (As : List Value) (post : Option Value → HP → Prop) : Prop := AM l yX7_addCharacter cX7_addCharacter 4 none 2 42 0 0 E n h As post
abbrev MX7_dropMessage (l : Launch) (E : EV) (n : Nat) (h : HP) (As : List Value) (post : Option Value → HP → Prop) : Prop := AM l yX7_dropMessage cX7_dropMessage 5 none 1 21 0 0 E n h As post
abbrev MX8_hasNumber (l : Launch) (E : EV) (n : Nat) (h : HP) (As : List Value) (post : Option Value → HP → Prop) : Prop := AM l yX8_hasNumber cX8_hasNumber 2 (some .boolean) 0 0 0 0 E n h As post
abbrev MX9_init (l : Launch) (E : EV) (n : Nat) (h : HP) (As : List Value) (post : Option Value → HP → Prop) : Prop := AM l yX9_init cX9_init 1 none 4 81 183 6989 E n h As post
abbrev MX9_begin (l : Launch) (E : EV) (n : Nat) (h : HP) (As : List Value) (post : Option Value → HP → Prop) : Prop := AM l yX9_begin cX9_begin 3 (some .int) 5 145 0 0 E n h As post
abbrev MX9_setNumber (l : Launch) (E : EV) (n : Nat) (h : HP) (As : List Value) (post : Option Value → HP → Prop) : Prop := AM l yX9_setNumber cX9_setNumber 4 (some .int) 5 145 0 0 E n h As post
abbrev MX9_setColumn (l : Launch) (E : EV) (n : Nat) (h : HP) (As : List Value) (post : Option Value → HP → Prop) : Prop := AM l yX9_setColumn cX9_setColumn 4 (some .int) 5 145 0 0 E n h As post
abbrev MX9_addMessage (l : Launch) (E : EV) (n : Nat) (h : HP) (As : List Value) (post : Option Value → HP → Prop) : Prop := AM l yX9_addMessage cX9_addMessage 3 (some .int) 5 145 0 0 E n h As post
abbrev MX9_removeMessage (l : Launch) (E : EV) (n : Nat) (h : HP) (As : List Value) (post : Option Value → HP → Prop) : Prop := AM l yX9_removeMessage cX9_removeMessage 2 (some .int) 5 145 0 0 E n h As post
abbrev MX9_canShow (l : Launch) (E : EV) (n : Nat) (h : HP) (As : List Value) (post : Option Value → HP → Prop) : Prop := AM l yX9_canShow cX9_canShow 3 (some .boolean) 1 21 0 0 E n h As post
abbrev MX9_show (l : Launch) (E : EV) (n : Nat) (h : HP) (As : List Value) (post : Option Value → HP → Prop) : Prop := AM l yX9_show cX9_show 3 (some .int) 6 153 0 0 E n h As post
abbrev MX9_darken (l : Launch) (E : EV) (n : Nat) (h : HP) (As : List Value) (post : Option Value → HP → Prop) : Prop := AM l yX9_darken cX9_darken 1 (some .int) 5 145 0 0 E n h As post
abbrev MX9_jam (l : Launch) (E : EV) (n : Nat) (h : HP) (As : List Value) (post : Option Value → HP → Prop) : Prop := AM l yX9_jam cX9_jam 3 (some .int) 5 145 0 0 E n h As post
abbrev MX9_mend (l : Launch) (E : EV) (n : Nat) (h : HP) (As : List Value) (post : Option Value → HP → Prop) : Prop := AM l yX9_mend cX9_mend 4 (some .int) 5 145 0 0 E n h As post
abbrev MX9_pass (l : Launch) (E : EV) (n : Nat) (h : HP) (As : List Value) (post : Option Value → HP → Prop) : Prop := AM l yX9_pass cX9_pass 3 (some .int) 6 145 0 0 E n h As post
abbrev MX9_count (l : Launch) (E : EV) (n : Nat) (h : HP) (As : List Value) (post : Option Value → HP → Prop) : Prop := AM l yX9_count cX9_count 2 (some .int) 3 65 0 0 E n h As post
abbrev MX9_column (l : Launch) (E : EV) (n : Nat) (h : HP) (As : List Value) (post : Option Value → HP → Prop) : Prop := AM l yX9_column cX9_column 3 (some .int) 1 21 0 0 E n h As post
abbrev MX9_flips (l : Launch) (E : EV) (n : Nat) (h : HP) (As : List Value) (post : Option Value → HP → Prop) : Prop := AM l yX9_flips cX9_flips 3 (some .int) 3 65 0 0 E n h As post
abbrev MX9_letter (l : Launch) (E : EV) (n : Nat) (h : HP) (As : List Value) (post : Option Value → HP → Prop) : Prop := AM l yX9_letter cX9_letter 3 (some .int) 2 44 0 0 E n h As post
abbrev MX9_message (l : Launch) (E : EV) (n : Nat) (h : HP) (As : List Value) (post : Option Value → HP → Prop) : Prop := AM l yX9_message cX9_message 3 (some .int) 2 44 0 0 E n h As post
abbrev MX9_strip (l : Launch) (E : EV) (n : Nat) (h : HP) (As : List Value) (post : Option Value → HP → Prop) : Prop := AM l yX9_strip cX9_strip 2 (some .int) 3 68 0 0 E n h As post
abbrev MX9_power (l : Launch) (E : EV) (n : Nat) (h : HP) (As : List Value) (post : Option Value → HP → Prop) : Prop := AM l yX9_power cX9_power 2 (some .int) 2 43 0 0 E n h As post
abbrev ML_cell (l : Launch) (E : EV) (n : Nat) (h : HP) (As : List Value) (post : Option Value → HP → Prop) : Prop := AM l yL_cell cL_cell 2 (some .int) 0 0 0 0 E n h As post
abbrev ML_low (l : Launch) (E : EV) (n : Nat) (h : HP) (As : List Value) (post : Option Value → HP → Prop) : Prop := AM l yL_low cL_low 2 (some .int) 0 0 0 0 E n h As post
abbrev ML_bits (l : Launch) (E : EV) (n : Nat) (h : HP) (As : List Value) (post : Option Value → HP → Prop) : Prop := AM l yL_bits cL_bits 3 (some .int) 0 0 0 0 E n h As post
abbrev ML_strip (l : Launch) (E : EV) (n : Nat) (h : HP) (As : List Value) (post : Option Value → HP → Prop) : Prop := AM l yL_strip cL_strip 5 (some .int) 0 0 0 0 E n h As post
abbrev ML_picture (l : Launch) (E : EV) (n : Nat) (h : HP) (As : List Value) (post : Option Value → HP → Prop) : Prop := AM l yL_picture cL_picture 11 (some .int) 1 24 0 0 E n h As post
abbrev ML_due (l : Launch) (E : EV) (n : Nat) (h : HP) (As : List Value) (post : Option Value → HP → Prop) : Prop := AM l yL_due cL_due 4 (some .int) 1 22 0 0 E n h As post
abbrev ML_goes (l : Launch) (E : EV) (n : Nat) (h : HP) (As : List Value) (post : Option Value → HP → Prop) : Prop := AM l yL_goes cL_goes 8 (some .int) 0 0 0 0 E n h As post
abbrev ML_second (l : Launch) (E : EV) (n : Nat) (h : HP) (As : List Value) (post : Option Value → HP → Prop) : Prop := AM l yL_second cL_second 8 none 1 27 1 16 E n h As post
abbrev ML_wrong (l : Launch) (E : EV) (n : Nat) (h : HP) (As : List Value) (post : Option Value → HP → Prop) : Prop := AM l yL_wrong cL_wrong 10 (some .int) 2 54 0 0 E n h As post
abbrev ML_best (l : Launch) (E : EV) (n : Nat) (h : HP) (As : List Value) (post : Option Value → HP → Prop) : Prop := AM l yL_best cL_best 10 (some .int) 3 83 0 0 E n h As post
abbrev ML_isSo (l : Launch) (E : EV) (n : Nat) (h : HP) (As : List Value) (post : Option Value → HP → Prop) : Prop := AM l yL_isSo cL_isSo 12 (some .boolean) 4 90 0 0 E n h As post
abbrev ML_acts (c : Nat) (l : Launch) (E : EV) (n : Nat) (h : HP) (As : List Value) (post : Option Value → HP → Prop) : Prop := AM l yL_acts cL_acts 26 (some .boolean) 7 180 c (16 * c) E n h As post
