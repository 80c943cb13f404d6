/-! foreseeing, ordering -/
def SB (S : SV) : Prop := ∀ i, B7 (S.1 i)
theorem sbF_B7 {co : IF} (hc : ∀ i, B7 (co i)) (wd ch : Nat → Nat) : ∀ (r i : Nat) (z : Int), B7 (sbF co wd ch r i z)
  | 0, _, _ => B7_0
  | r + 1, i, z => by
    rw [sbF]
    split
    · exact B7_0
    · split
      · rw [cF]
        split
        · exact B7_0
        · exact hc _
      · exact sbF_B7 hc wd ch r (i + 1) _
theorem pF_B7 {S : SV} (hS : SB S) (W m : Nat) (s : Int) (c : Nat) : B7 (pF W S m s c) := by
  rw [pF]
  split
  · exact sbF_B7 hS _ _ _ _ _
  · exact B7_0
theorem aim_VW {v : PV} {W P o : Nat} (H : VW v W P o) {p : IF} (hp : ∀ c, B7 (p c)) : VW (aimD v p, v.2) W P o := by
  obtain ⟨h1, h2, h3, h4, h5, h6⟩ := H
  exact ⟨h1, h2, h3, h4, h5, fun c hc => ⟨(h6 c hc).1, hp c, (h6 c hc).2.2⟩⟩
