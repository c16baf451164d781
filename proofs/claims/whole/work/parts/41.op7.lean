/-! judge -/
theorem op_7 : P_7 RI := by
  intro x m a0 a1 h
  have hm2 : (ux m 0 6 0) 1 = m 1 := ux_ne (by decide)
  obtain ⟨⟨N, P, hI⟩, hF⟩ := h.2.1
  have hN := hI.1
  have eN := hI.2.1
  unfold f_X4_judge t_X4_judge f_X5_judge
  simp -implicitDefEqProofs only [sb]
  rcases f_isC (m := ux m 0 6 0) hN (by rw [hm2]; exact eN) a0 with ⟨e, w⟩ | ⟨c, hc, rfl, e⟩
  · rw [(f_hasC h.1 hN eN a0).1 w, e]
    exact Or.inr ⟨1, 1, 0, ux (ux m 0 6 0) 0 6 1, Or.inl ⟨rfl, rfl⟩, rfl, rfl, ux_at, (h.thr 0).thr 1⟩
  rw [(f_hasC h.1 hN eN (nI c)).2 c hc rfl, e, sb, sb, sb, show f_X4_requireIndex 1 = some () from rfl, sb, if_neg (show ¬ (1 : Int32) = 0 by decide), if_neg (show ¬ (1 : Int32) = 0 by decide)]
  obtain ⟨v, q1, q2, q3⟩ := judge_eq (b := 1) (x := x) (m := ux m 0 6 0) (by rw [hm2]; exact h.1) (by rw [hm2]; exact hI) hc a1
  rw [q1, q2, sb, sb, sb]
  by_cases v0 : v = 0
  · obtain ⟨h0, k, a, hk, ha, rfl⟩ := q3 v0
    rw [hm2] at h0 hk ha
    left
    rw [if_pos v0, if_pos v0]
    obtain ⟨x1, m1, e1, e2, g3, e4, e5, e6⟩ := saved Inv.cong (h.thr 0)
    have e4 : m1 1 = m 1 := e4.trans hm2
    rw [← e4] at hI h0 hk ha hF
    obtain ⟨x2, m2, i1, i2, i3, i4, i5, -⟩ := judge_now g3.1 hI hc h0 hk ha
    unfold f_X4_judge_31
    rw [show f_X4_requireState 1 = some () from rfl, sb, e1, sb, e2, sb, i1, i2, sb, sb]
    exact ⟨m2 0 7, x2, m2, rfl, rfl, by rw [i3.2.2.2 6 (by decide), e5 6 (by decide), ux_at], i3.R g3 ⟨⟨N, P, i4⟩, hF.irr i5⟩⟩
  · rw [if_neg v0, if_neg v0]
    refine Or.inr ⟨3, 2, 0, ux (ux m 0 6 0) 0 6 2, Or.inr ⟨rfl, rfl⟩, ?_, rfl, ux_at, (h.thr 0).thr 2⟩
    rw [if_neg v0]
    rfl
