theorem op_6 : P_6 RI := by
  intro x m a0 h
  have hm2 : (ux m 0 6 0) 1 = m 1 := ux_ne (by decide)
  obtain ⟨⟨N, P, hI⟩, hF⟩ := h.2.1
  have hN := hI.1
  have eN := hI.2.1
  have hi : Inv (m 1) := h.2.1
  unfold f_X4_appeal t_X4_appeal f_X5_appeal
  simp -implicitDefEqProofs only [sb]
  rcases f_isC (m := ux m 0 6 0) hN (by rw [hm2]; exact eN) a0 with ⟨e, w⟩ | ⟨c, hc, rfl, e⟩
  · rw [(f_hasC h.1 hN eN a0).1 w, e]
    exact Or.inr ⟨1, 1, 0, ux (ux m 0 6 0) 0 6 1, Or.inl ⟨rfl, rfl⟩, rfl, rfl, ux_at, (h.thr 0).thr 1⟩
  · rw [(f_hasC h.1 hN eN (nI c)).2 c hc rfl, e, sb, sb, sb, show f_X4_requireIndex 1 = some () from rfl, sb]
    rw [if_neg (show ¬ (1 : Int32) = 0 by decide), if_neg (show ¬ (1 : Int32) = 0 by decide)]
    have e3 : nI (202 + 10 * c) + 3 = nI (205 + 10 * c) := nI_p _ 3 (by omega)
    have e7 : nI (202 + 10 * c) + 7 = nI (209 + 10 * c) := nI_p _ 7 (by omega)
    have hX : f_X3_canBeAppealed 1 x (nI c) = if m 1 (205 + 10 * c) = 1 then (if m 1 (209 + 10 * c) + m 1 3 < m 1 1 then some 0 else some 1) else some 0 := by
      unfold f_X3_canBeAppealed
      rw [f_stageOf h.1 hN eN hc, sb]
      by_cases q : m 1 (205 + 10 * c) = 1
      · rw [if_pos q, if_pos q, f_monthOf h.1 hN eN hc, sb]
        unfold f_X3_settingOf
        rw [show f_X4_isSetting 1 = some 1 from by decide +kernel, sb, if_neg (by decide), ag' (e := 1) (n := 3) 1 rfl (by decide), sb, sb, sm_set h.1 (j := 1) (by decide), sm_month h.1]
      · rw [if_neg q, if_neg q]
    rw [hX, f_of, sb, e3, ag (by omega), sb, hm2]
    by_cases q : m 1 (205 + 10 * c) = 1
    · rw [if_pos q, if_pos q, ag' (e := 1) (n := 442) 1 rfl (by decide), sb, sb, e7, ag (by omega), sb, ag' (e := 3) (n := 442) 3 rfl (by decide), sb]
      by_cases q2 : m 1 (209 + 10 * c) + m 1 3 < m 1 1
      · rw [if_pos q2, if_neg (fun w => Int32.lt_irrefl (Int32.lt_of_le_of_lt w q2))]
        exact Or.inr ⟨3, 2, 0, ux (ux m 0 6 0) 0 6 2, Or.inr ⟨rfl, rfl⟩, rfl, rfl, ux_at, (h.thr 0).thr 2⟩
      · rw [if_neg q2, if_pos (Int32.not_lt.mp q2)]
        left
        obtain ⟨x1, m1, e1, e2, g3, e4, e5, e6⟩ := saved Inv.cong (h.thr 0)
        have e4 : m1 1 = m 1 := e4.trans hm2
        have eN1 : m1 1 0 = nI N := by rw [e4]; exact eN
        have F1 := (FS.rf g3.1).put (zx_co (j := 3) (by decide) (show c < 24 by omega)) 2
        rw [show 202 + 10 * c + 3 = 205 + 10 * c by omega] at F1
        have hI1 : Inv ((ux m1 1 (205 + 10 * c) 2) 1) := by
          rw [ux_eq, e4]
          exact ⟨⟨N, P, hI.stage (st := 1) (st1 := 2) hc q (by decide) (by decide) (by decide) (by decide)⟩, hF.irr (fun i hi => pk_un (by unfold isfl at hi; omega))⟩
        have eN2 : (ux m1 1 (205 + 10 * c) 2) 1 0 = nI N := by rw [ux_j (by omega)]; exact eN1
        obtain ⟨r, r1, r2⟩ := f_staged F1.1 hN eN2 2 N 4096 0 0 (by omega) (by omega)
        refine ⟨r, _, _, ?_, ?_, ?_, F1.R g3 hI1⟩
        · rw [sb, show f_X4_requireState 1 = some () from rfl, sb, e1, sb]
          unfold f_X0_changeStage
          rw [(f_hasC g3.1 hN eN1 (nI c)).2 c hc rfl, sb, if_neg (by decide), asn (by omega), sb, sb]
          unfold f_X0_inStage
          rw [show (0 : Int32) = nI 0 from rfl] at r1
          have r3 : f_X0_inStage_4 1 (ux x1 (1 + 11) c 2) 4096 2 0 0 = some r := r1
          rw [r3, sb]
        · rw [e2, sb, sb, e3, asn (by omega), sb]
          unfold f_X5_staged
          rw [show (0 : Int32) = nI 0 from rfl] at r2
          rw [show (0 : Int32) = nI 0 from rfl, r2, sb]
        · rw [ux_k (by decide), e5 6 (by decide), ux_at]
    · rw [if_neg q, if_neg q]
      exact Or.inr ⟨3, 2, 0, ux (ux m 0 6 0) 0 6 2, Or.inr ⟨rfl, rfl⟩, rfl, rfl, ux_at, (h.thr 0).thr 2⟩
