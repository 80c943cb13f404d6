/-! counting -/
section C3
variable {h : HP} {x : Nat} {B : FV}
theorem tX9_count (l : Launch) (E : EV) (n : Nat) (H : HB h x B) (w : Int32) : MX9_count l E n h [.ref x, .int w] (PR (.int (fCount B w)) h) := by
  obtain ⟨e0, ev, ⟨f, vs, hf, hz, eh, hs⟩, et, -⟩ := H
  have s0 := ev.1
  have d0 := ev.2.1.1
  have m0 := ev.2.2.1.1
  have c0 := ev.2.2.2.1.1
  have n0 := ev.2.2.2.2
  have h0 := eh.1
  refine AM.intro mf_X9_count (by simp [Value.category]) (Nat.le_of_ble_eq_true rfl) (fun X hl hE hnm hX => ?_)
  subst hl
  subst hE
  show AW X _ _ 0 0 0 [some (.ref x), some (.int w)] []
  refine aw_iload_n hX dX9_count_0 rfl ?_
  skip
  rcases sw_cases 14 w (by decide) with hw | ⟨k, hk, rfl⟩
  ·
    refine aw_tabOut hX 229 dX9_count_1 hw (by decide) ?_
    refine aw_sipush hX (-1001) dX9_count_229 (by decide) ?_
    exact aw_iret hX rfl rfl rfl rfl dX9_count_232 (by rw [fCount, if_neg (show ¬ w = 0 from swne hw (k := 0) (by decide) (by decide)), if_neg (show ¬ w = 1 from swne hw (k := 1) (by decide) (by decide)), if_neg (show ¬ w = 2 from swne hw (k := 2) (by decide) (by decide)), if_neg (show ¬ w = 3 from swne hw (k := 3) (by decide) (by decide)), if_neg (show ¬ w = 4 from swne hw (k := 4) (by decide) (by decide)), if_neg (show ¬ w = 5 from swne hw (k := 5) (by decide) (by decide)), if_neg (show ¬ w = 6 from swne hw (k := 6) (by decide) (by decide)), if_neg (show ¬ w = 7 from swne hw (k := 7) (by decide) (by decide)), if_neg (show ¬ w = 8 from swne hw (k := 8) (by decide) (by decide)), if_neg (show ¬ w = 9 from swne hw (k := 9) (by decide) (by decide)), if_neg (show ¬ w = 10 from swne hw (k := 10) (by decide) (by decide)), if_neg (show ¬ w = 11 from swne hw (k := 11) (by decide) (by decide)), if_neg (show ¬ w = 12 from swne hw (k := 12) (by decide) (by decide)), if_neg (show ¬ w = 13 from swne hw (k := 13) (by decide) (by decide)), if_neg (show ¬ w = 14 from swne hw (k := 14) (by decide) (by decide))]; exact ⟨rfl, rfl⟩)
  rcases (show k = 0 ∨ k = 1 ∨ k = 2 ∨ k = 3 ∨ k = 4 ∨ k = 5 ∨ k = 6 ∨ k = 7 ∨ k = 8 ∨ k = 9 ∨ k = 10 ∨ k = 11 ∨ k = 12 ∨ k = 13 ∨ k = 14 by omega) with q | q | q | q | q | q | q | q | q | q | q | q | q | q | q <;> subst q
  ·
    refine aw_tabIn hX 76 dX9_count_1 (by decide) (by decide) rfl (by decide) ?_
    refine aw_aload_n hX dX9_count_76 rfl ?_
    refine gt_X9_10 hX dX9_count_77 (by assumption) (by exact rfl) ?_
    refine gt_X9_66 hX dX9_count_80 (by assumption) (by exact rfl) ?_
    refine gt_X9_70 hX dX9_count_83 (by assumption) (by exact rfl) ?_
    exact aw_iret hX rfl rfl rfl rfl dX9_count_86 (by rw [fCount, if_pos (show nI 0 = 0 from rfl)]; exact ⟨rfl, rfl⟩)
  ·
    refine aw_tabIn hX 87 dX9_count_1 (by decide) (by decide) rfl (by decide) ?_
    refine aw_aload_n hX dX9_count_87 rfl ?_
    refine gt_X9_10 hX dX9_count_88 (by assumption) (by exact rfl) ?_
    refine gt_X9_97 hX dX9_count_91 (by assumption) (by exact rfl) ?_
    refine aw_iconst hX (0) dX9_count_94 (by decide) ?_
    refine aw_ialdN hX (0) (by assumption) rfl (by decide) (by first | decide | assumption) dX9_count_95 ?_
    exact aw_iret hX rfl rfl rfl rfl dX9_count_96 (by rw [fCount, if_neg (show ¬ nI 1 = 0 by decide), if_pos (show nI 1 = 1 from rfl)]; exact ⟨rfl, rfl⟩)
  ·
    refine aw_tabIn hX 97 dX9_count_1 (by decide) (by decide) rfl (by decide) ?_
    refine aw_aload_n hX dX9_count_97 rfl ?_
    refine gt_X9_10 hX dX9_count_98 (by assumption) (by exact rfl) ?_
    refine gt_X9_97 hX dX9_count_101 (by assumption) (by exact rfl) ?_
    refine aw_iconst hX (1) dX9_count_104 (by decide) ?_
    refine aw_ialdN hX (1) (by assumption) rfl (by decide) (by first | decide | assumption) dX9_count_105 ?_
    exact aw_iret hX rfl rfl rfl rfl dX9_count_106 (by rw [fCount, if_neg (show ¬ nI 2 = 0 by decide), if_neg (show ¬ nI 2 = 1 by decide), if_pos (show nI 2 = 2 from rfl)]; exact ⟨rfl, rfl⟩)
  ·
    refine aw_tabIn hX 107 dX9_count_1 (by decide) (by decide) rfl (by decide) ?_
    refine aw_aload_n hX dX9_count_107 rfl ?_
    refine gt_X9_10 hX dX9_count_108 (by assumption) (by exact rfl) ?_
    refine gt_X9_97 hX dX9_count_111 (by assumption) (by exact rfl) ?_
    refine aw_iconst hX (2) dX9_count_114 (by decide) ?_
    refine aw_ialdN hX (2) (by assumption) rfl (by decide) (by first | decide | assumption) dX9_count_115 ?_
    exact aw_iret hX rfl rfl rfl rfl dX9_count_116 (by rw [fCount, if_neg (show ¬ nI 3 = 0 by decide), if_neg (show ¬ nI 3 = 1 by decide), if_neg (show ¬ nI 3 = 2 by decide), if_pos (show nI 3 = 3 from rfl)]; exact ⟨rfl, rfl⟩)
  ·
    refine aw_tabIn hX 117 dX9_count_1 (by decide) (by decide) rfl (by decide) ?_
    refine aw_aload_n hX dX9_count_117 rfl ?_
    refine gt_X9_10 hX dX9_count_118 (by assumption) (by exact rfl) ?_
    refine gt_X9_100 hX dX9_count_121 (by assumption) (by exact rfl) ?_
    refine gt_X9_114 hX dX9_count_124 (by assumption) (by exact rfl) ?_
    exact aw_iret hX rfl rfl rfl rfl dX9_count_127 (by rw [fCount, if_neg (show ¬ nI 4 = 0 by decide), if_neg (show ¬ nI 4 = 1 by decide), if_neg (show ¬ nI 4 = 2 by decide), if_neg (show ¬ nI 4 = 3 by decide), if_pos (show nI 4 = 4 from rfl)]; exact ⟨rfl, rfl⟩)
  ·
    refine aw_tabIn hX 128 dX9_count_1 (by decide) (by decide) rfl (by decide) ?_
    refine aw_aload_n hX dX9_count_128 rfl ?_
    refine gt_X9_10 hX dX9_count_129 (by assumption) (by exact rfl) ?_
    refine gt_X9_66 hX dX9_count_132 (by assumption) (by exact rfl) ?_
    refine aw_callVp hX RX9 rfl (tX0_dueDots _ _ _ ev.2.1) rfl mf_X0_dueDots mi_X0_dueDots ms_X0_dueDots kl_X9_158 (by assumption) rfl rfl (by decide) (Nat.le_of_ble_eq_true rfl) dX9_count_135 (by decide) ?_
    exact aw_iret hX rfl rfl rfl rfl dX9_count_138 (by rw [fCount, if_neg (show ¬ nI 5 = 0 by decide), if_neg (show ¬ nI 5 = 1 by decide), if_neg (show ¬ nI 5 = 2 by decide), if_neg (show ¬ nI 5 = 3 by decide), if_neg (show ¬ nI 5 = 4 by decide), if_pos (show nI 5 = 5 from rfl)]; exact ⟨rfl, rfl⟩)
  ·
    refine aw_tabIn hX 139 dX9_count_1 (by decide) (by decide) rfl (by decide) ?_
    refine aw_aload_n hX dX9_count_139 rfl ?_
    refine gt_X9_10 hX dX9_count_140 (by assumption) (by exact rfl) ?_
    refine gt_X9_66 hX dX9_count_143 (by assumption) (by exact rfl) ?_
    refine aw_callVp hX RX9 rfl (tX0_stuckDots _ _ _ ev.2.1) rfl mf_X0_stuckDots mi_X0_stuckDots ms_X0_stuckDots kl_X9_185 (by assumption) rfl rfl (by decide) (Nat.le_of_ble_eq_true rfl) dX9_count_146 (by decide) ?_
    exact aw_iret hX rfl rfl rfl rfl dX9_count_149 (by rw [fCount, if_neg (show ¬ nI 6 = 0 by decide), if_neg (show ¬ nI 6 = 1 by decide), if_neg (show ¬ nI 6 = 2 by decide), if_neg (show ¬ nI 6 = 3 by decide), if_neg (show ¬ nI 6 = 4 by decide), if_neg (show ¬ nI 6 = 5 by decide), if_pos (show nI 6 = 6 from rfl)]; exact ⟨rfl, rfl⟩)
  ·
    refine aw_tabIn hX 150 dX9_count_1 (by decide) (by decide) rfl (by decide) ?_
    refine aw_aload_n hX dX9_count_150 rfl ?_
    refine gt_X9_10 hX dX9_count_151 (by assumption) (by exact rfl) ?_
    refine gt_X9_66 hX dX9_count_154 (by assumption) (by exact rfl) ?_
    refine aw_callVp hX RX9 rfl (tX0_knownDots _ _ _ ev.2.1) rfl mf_X0_knownDots mi_X0_knownDots ms_X0_knownDots kl_X9_188 (by assumption) rfl rfl (by decide) (Nat.le_of_ble_eq_true rfl) dX9_count_157 (by decide) ?_
    exact aw_iret hX rfl rfl rfl rfl dX9_count_160 (by rw [fCount, if_neg (show ¬ nI 7 = 0 by decide), if_neg (show ¬ nI 7 = 1 by decide), if_neg (show ¬ nI 7 = 2 by decide), if_neg (show ¬ nI 7 = 3 by decide), if_neg (show ¬ nI 7 = 4 by decide), if_neg (show ¬ nI 7 = 5 by decide), if_neg (show ¬ nI 7 = 6 by decide), if_pos (show nI 7 = 7 from rfl)]; exact ⟨rfl, rfl⟩)
  ·
    refine aw_tabIn hX 161 dX9_count_1 (by decide) (by decide) rfl (by decide) ?_
    refine aw_aload_n hX dX9_count_161 rfl ?_
    refine gt_X9_10 hX dX9_count_162 (by assumption) (by exact rfl) ?_
    refine gt_X9_66 hX dX9_count_165 (by assumption) (by exact rfl) ?_
    refine aw_callVp hX RX9 rfl (tX0_otherDots _ _ _ ev.2.1) rfl mf_X0_otherDots mi_X0_otherDots ms_X0_otherDots kl_X9_191 (by assumption) rfl rfl (by decide) (Nat.le_of_ble_eq_true rfl) dX9_count_168 (by decide) ?_
    exact aw_iret hX rfl rfl rfl rfl dX9_count_171 (by rw [fCount, if_neg (show ¬ nI 8 = 0 by decide), if_neg (show ¬ nI 8 = 1 by decide), if_neg (show ¬ nI 8 = 2 by decide), if_neg (show ¬ nI 8 = 3 by decide), if_neg (show ¬ nI 8 = 4 by decide), if_neg (show ¬ nI 8 = 5 by decide), if_neg (show ¬ nI 8 = 6 by decide), if_neg (show ¬ nI 8 = 7 by decide), if_pos (show nI 8 = 8 from rfl)]; exact ⟨rfl, rfl⟩)
  ·
    refine aw_tabIn hX 172 dX9_count_1 (by decide) (by decide) rfl (by decide) ?_
    refine aw_aload_n hX dX9_count_172 rfl ?_
    refine gt_X9_10 hX dX9_count_173 (by assumption) (by exact rfl) ?_
    refine gt_X9_79 hX dX9_count_176 (by assumption) (by exact rfl) ?_
    refine gt_X9_194 hX dX9_count_179 (by assumption) (by exact rfl) ?_
    exact aw_iret hX rfl rfl rfl rfl dX9_count_182 (by rw [fCount, if_neg (show ¬ nI 9 = 0 by decide), if_neg (show ¬ nI 9 = 1 by decide), if_neg (show ¬ nI 9 = 2 by decide), if_neg (show ¬ nI 9 = 3 by decide), if_neg (show ¬ nI 9 = 4 by decide), if_neg (show ¬ nI 9 = 5 by decide), if_neg (show ¬ nI 9 = 6 by decide), if_neg (show ¬ nI 9 = 7 by decide), if_neg (show ¬ nI 9 = 8 by decide), if_pos (show nI 9 = 9 from rfl)]; exact ⟨rfl, rfl⟩)
  ·
    refine aw_tabIn hX 183 dX9_count_1 (by decide) (by decide) rfl (by decide) ?_
    refine aw_aload_n hX dX9_count_183 rfl ?_
    refine gt_X9_10 hX dX9_count_184 (by assumption) (by exact rfl) ?_
    refine gt_X9_79 hX dX9_count_187 (by assumption) (by exact rfl) ?_
    refine gt_X9_197 hX dX9_count_190 (by assumption) (by exact rfl) ?_
    exact aw_iret hX rfl rfl rfl rfl dX9_count_193 (by rw [fCount, if_neg (show ¬ nI 10 = 0 by decide), if_neg (show ¬ nI 10 = 1 by decide), if_neg (show ¬ nI 10 = 2 by decide), if_neg (show ¬ nI 10 = 3 by decide), if_neg (show ¬ nI 10 = 4 by decide), if_neg (show ¬ nI 10 = 5 by decide), if_neg (show ¬ nI 10 = 6 by decide), if_neg (show ¬ nI 10 = 7 by decide), if_neg (show ¬ nI 10 = 8 by decide), if_neg (show ¬ nI 10 = 9 by decide), if_pos (show nI 10 = 10 from rfl)]; exact ⟨rfl, rfl⟩)
  ·
    refine aw_tabIn hX 194 dX9_count_1 (by decide) (by decide) rfl (by decide) ?_
    refine aw_aload_n hX dX9_count_194 rfl ?_
    refine gt_X9_10 hX dX9_count_195 (by assumption) (by exact rfl) ?_
    refine gt_X9_79 hX dX9_count_198 (by assumption) (by exact rfl) ?_
    refine gt_X9_200 hX dX9_count_201 (by assumption) (by exact rfl) ?_
    exact aw_iret hX rfl rfl rfl rfl dX9_count_204 (by rw [fCount, if_neg (show ¬ nI 11 = 0 by decide), if_neg (show ¬ nI 11 = 1 by decide), if_neg (show ¬ nI 11 = 2 by decide), if_neg (show ¬ nI 11 = 3 by decide), if_neg (show ¬ nI 11 = 4 by decide), if_neg (show ¬ nI 11 = 5 by decide), if_neg (show ¬ nI 11 = 6 by decide), if_neg (show ¬ nI 11 = 7 by decide), if_neg (show ¬ nI 11 = 8 by decide), if_neg (show ¬ nI 11 = 9 by decide), if_neg (show ¬ nI 11 = 10 by decide), if_pos (show nI 11 = 11 from rfl)]; exact ⟨rfl, rfl⟩)
  ·
    refine aw_tabIn hX 205 dX9_count_1 (by decide) (by decide) rfl (by decide) ?_
    refine aw_aload_n hX dX9_count_205 rfl ?_
    refine gt_X9_10 hX dX9_count_206 (by assumption) (by exact rfl) ?_
    refine gt_X9_79 hX dX9_count_209 (by assumption) (by exact rfl) ?_
    refine gt_X9_203 hX dX9_count_212 (by assumption) (by exact rfl) ?_
    exact aw_iret hX rfl rfl rfl rfl dX9_count_215 (by rw [fCount, if_neg (show ¬ nI 12 = 0 by decide), if_neg (show ¬ nI 12 = 1 by decide), if_neg (show ¬ nI 12 = 2 by decide), if_neg (show ¬ nI 12 = 3 by decide), if_neg (show ¬ nI 12 = 4 by decide), if_neg (show ¬ nI 12 = 5 by decide), if_neg (show ¬ nI 12 = 6 by decide), if_neg (show ¬ nI 12 = 7 by decide), if_neg (show ¬ nI 12 = 8 by decide), if_neg (show ¬ nI 12 = 9 by decide), if_neg (show ¬ nI 12 = 10 by decide), if_neg (show ¬ nI 12 = 11 by decide), if_pos (show nI 12 = 12 from rfl)]; exact ⟨rfl, rfl⟩)
  ·
    refine aw_tabIn hX 216 dX9_count_1 (by decide) (by decide) rfl (by decide) ?_
    refine aw_aload_n hX dX9_count_216 rfl ?_
    refine gt_X9_58 hX dX9_count_217 (by assumption) (by exact rfl) ?_
    exact aw_iret hX rfl rfl rfl rfl dX9_count_220 (by rw [fCount, if_neg (show ¬ nI 13 = 0 by decide), if_neg (show ¬ nI 13 = 1 by decide), if_neg (show ¬ nI 13 = 2 by decide), if_neg (show ¬ nI 13 = 3 by decide), if_neg (show ¬ nI 13 = 4 by decide), if_neg (show ¬ nI 13 = 5 by decide), if_neg (show ¬ nI 13 = 6 by decide), if_neg (show ¬ nI 13 = 7 by decide), if_neg (show ¬ nI 13 = 8 by decide), if_neg (show ¬ nI 13 = 9 by decide), if_neg (show ¬ nI 13 = 10 by decide), if_neg (show ¬ nI 13 = 11 by decide), if_neg (show ¬ nI 13 = 12 by decide), if_pos (show nI 13 = 13 from rfl)]; exact ⟨rfl, rfl⟩)
  ·
    refine aw_tabIn hX 221 dX9_count_1 (by decide) (by decide) rfl (by decide) ?_
    refine aw_aload_n hX dX9_count_221 rfl ?_
    refine gt_X9_22 hX dX9_count_222 (by assumption) (by exact rfl) ?_
    refine gt_X9_206 hX dX9_count_225 (by assumption) (by exact rfl) ?_
    exact aw_iret hX rfl rfl rfl rfl dX9_count_228 (by rw [fCount, if_neg (show ¬ nI 14 = 0 by decide), if_neg (show ¬ nI 14 = 1 by decide), if_neg (show ¬ nI 14 = 2 by decide), if_neg (show ¬ nI 14 = 3 by decide), if_neg (show ¬ nI 14 = 4 by decide), if_neg (show ¬ nI 14 = 5 by decide), if_neg (show ¬ nI 14 = 6 by decide), if_neg (show ¬ nI 14 = 7 by decide), if_neg (show ¬ nI 14 = 8 by decide), if_neg (show ¬ nI 14 = 9 by decide), if_neg (show ¬ nI 14 = 10 by decide), if_neg (show ¬ nI 14 = 11 by decide), if_neg (show ¬ nI 14 = 12 by decide), if_neg (show ¬ nI 14 = 13 by decide), if_pos (show nI 14 = 14 from rfl)]; exact ⟨rfl, rfl⟩)
end C3
