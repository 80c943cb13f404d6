/-! Reader, Orders: what they hold (no call of the law reaches them) -/
abbrev RV : Type := SV × Nat × Nat × Nat × Nat
def HRead (h : HP) (a : Nat) (R : RV) : Prop := h a = some (cO 6 [.ref (a + 1), .int (nI R.2.1), .int (nI R.2.2.1), .int (nI R.2.2.2.1), .int (nI R.2.2.2.2)]) ∧ HS h (a + 1) R.1
section RD
variable {h : HP} {a : Nat} {R : RV} {c : Nat}
theorem HRead.sm {h' : HP} {lo hi : Nat} (H : HRead h a R) (s : Sm lo hi h h') (hq : hi ≤ a ∨ a + 6 ≤ lo) : HRead h' a R :=
  ⟨(s.at (by omega)).trans H.1, HScript.sm H.2 s (by omega)⟩
end RD
abbrev OV : Type := IF × (Nat → IF) × (Nat → IF) × (Nat → IF) × Nat
def HGr (h : HP) (o b n k : Nat) (f : Nat → IF) : Prop := (∃ g : Nat → Option Nat, h o = some (cG 1 n g) ∧ ∀ i, i < n → g i = some (b + i)) ∧ ∀ i, i < n → h (b + i) = some (cI k (f i))
theorem HGr.sm {h h' : HP} {o b n k lo hi : Nat} {f : Nat → IF} (H : HGr h o b n k f) (s : Sm lo hi h h') (h1 : hi ≤ o ∨ o + 1 ≤ lo) (h2 : hi ≤ b ∨ b + n ≤ lo) : HGr h' o b n k f :=
  ⟨⟨H.1.choose, (s.at (by omega)).trans H.1.choose_spec.1, H.1.choose_spec.2⟩, fun i hi => (s.at (by omega)).trans (H.2 i hi)⟩
theorem HGr.put {h : HP} {o b n k i : Nat} {f : Nat → IF} (H : HGr h o b n k f) (g : IF) (hi : i < n) (ho : o < b) : HGr (hset h (b + i) (cI k g)) o b n k (va_up f i g) := by
  refine ⟨⟨H.1.choose, (hset_ne _ _ (by omega)).trans H.1.choose_spec.1, H.1.choose_spec.2⟩, fun j hj => ?_⟩
  by_cases e : j = i
  · subst e
    rw [va_up, if_pos rfl]
    exact hset_eq _ _ _
  · rw [va_up, if_neg e]
    exact (hset_ne _ _ (by omega)).trans (H.2 j hj)
def HOrd (h : HP) (a : Nat) (O : OV) : Prop :=
  h a = some (cO 4 [.ref (a + 1), .ref (a + 2), .ref (a + 9), .ref (a + 16), .int (nI O.2.2.2.2)]) ∧ h (a + 1) = some (cI 6 O.1) ∧ HGr h (a + 2) (a + 3) 6 40 O.2.1 ∧ HGr h (a + 9) (a + 10) 6 6 O.2.2.1 ∧ HGr h (a + 16) (a + 17) 32 6 O.2.2.2.1
theorem HOrd.sm {h h' : HP} {a lo hi : Nat} {O : OV} (H : HOrd h a O) (s : Sm lo hi h h') (hq : hi ≤ a ∨ a + 49 ≤ lo) : HOrd h' a O :=
  ⟨(s.at (by omega)).trans H.1, (s.at (by omega)).trans H.2.1, H.2.2.1.sm s (by omega) (by omega), H.2.2.2.1.sm s (by omega) (by omega), H.2.2.2.2.sm s (by omega) (by omega)⟩
section ORD
variable {h : HP} {a : Nat} {O : OV}
end ORD
