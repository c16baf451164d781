/-! ===== decide ===== -/
theorem f_mk2 {b : Nat} {x m : XS} (hS : Sim b x (m 1)) {N c k a p s P : Nat} (hN : N ≤ 24) (hP : P ≤ 24) (eN : m 1 0 = nI N) (eP : m 1 5 = nI P) (hc : c < N) (hk : kd (m 1) c k) (ha : hasA (m 1) k a) (hp : p < P) (es : m 1 (132 + 3 * p) = nI s) (hs : s < 24) (hne : s ≠ c) (a2 : Int32) (hb : f_X3_bindingFor b x (nI c) = some (nI p)) (q : m 1 (130 + 3 * p) = nI a) : f_X3_makeDecision b x (nI c) (nI a) a2 = some (2, ux (ux (ux (ux (ux (ux (ux (x) (b + 25) k (m 1 (8 + 28 * k) + (m 1 (10 + 28 * k + 4 * a) - m 1 (207 + 10 * c)))) (b + 12) c (nI a)) (b + 13) c (m 1 (10 + 28 * k + 4 * a))) (b + 11) c (1)) (b + 15) c (m 1 1)) (b + 16) c (nI p)) (b + 14) c (0)) := by
  have hk4 := hk.1
  have hc24 : c < 24 := by omega
  have F1 := fs_hand hS hc24 hk4 (a := a)
  unfold f_X3_makeDecision
  have am := (f_amP F1.1 hP (P := P) (by (repeat rw [ux_j (by omega)]); exact eP) hp).trans (congrArg some (show _ = m 1 (130 + 3 * p) by repeat rw [ux_j (by omega)]))
  have mo := (sm_month F1.1).trans (show _ = m 1 1 by repeat rw [ux_j (by omega)])
  rw [f_kindOf hS hN eN hc, sb, hk.2, hb, sb, f_handX hS hN eN hc hk ha, sb, if_neg (show ¬ nI p = -1 from fun w => nI_pos (n := p) (by omega) (by rw [w]; decide)), am, sb]
  rw [if_pos q, mo, f_oldX hS hN eN hc hk 2, sb]
  unfold f_X3_makeDecision_117
  rw [f_tie2 hS hN hP eN eP hc hk4 hp es hs hne, sb]
theorem f_mk3 {b : Nat} {x m : XS} (hS : Sim b x (m 1)) {N c k a p P : Nat} (hN : N ≤ 24) (hP : P ≤ 24) (eN : m 1 0 = nI N) (eP : m 1 5 = nI P) (hc : c < N) (hk : kd (m 1) c k) (ha : hasA (m 1) k a) (hp : p < P) (a2 : Int32) (hb : f_X3_bindingFor b x (nI c) = some (nI p)) (q : ¬ m 1 (130 + 3 * p) = nI a) : f_X3_makeDecision b x (nI c) (nI a) a2 = some (3, ux (ux (ux (ux (ux (ux (ux (x) (b + 25) k (m 1 (8 + 28 * k) + (m 1 (10 + 28 * k + 4 * a) - m 1 (207 + 10 * c)))) (b + 12) c (nI a)) (b + 13) c (m 1 (10 + 28 * k + 4 * a))) (b + 11) c (1)) (b + 15) c (m 1 1)) (b + 16) c (-1)) (b + 14) c (a2)) := by
  have hk4 := hk.1
  have hc24 : c < 24 := by omega
  have F1 := fs_hand hS hc24 hk4 (a := a)
  unfold f_X3_makeDecision
  have am := (f_amP F1.1 hP (P := P) (by (repeat rw [ux_j (by omega)]); exact eP) hp).trans (congrArg some (show _ = m 1 (130 + 3 * p) by repeat rw [ux_j (by omega)]))
  have mo := (sm_month F1.1).trans (show _ = m 1 1 by repeat rw [ux_j (by omega)])
  rw [f_kindOf hS hN eN hc, sb, hk.2, hb, sb, f_handX hS hN eN hc hk ha, sb, if_neg (show ¬ nI p = -1 from fun w => nI_pos (n := p) (by omega) (by rw [w]; decide)), am, sb]
  rw [if_neg q, mo, f_oldX hS hN eN hc hk 3, sb]
  unfold f_X3_makeDecision_117
  rw [f_tie3 hS hN eN hc hk4, sb]
theorem op_5 : P_5 RI := by
  intro x m a0 a1 a2 h
  have hm2 : (ux m 0 6 0) 1 = m 1 := ux_ne (by decide)
  obtain ⟨⟨N, P, hI⟩, hF⟩ := h.2.1
  have hN := hI.1
  have eN := hI.2.1
  unfold f_X4_decide t_X4_decide f_X5_decide
  simp -implicitDefEqProofs only [sb]
  rcases f_isC (m := ux m 0 6 0) hN (by rw [hm2]; exact eN) a0 with ⟨e, w⟩ | ⟨c, hc, rfl, e⟩
  · rw [(f_hasC h.1 hN eN a0).1 w, e]
    exact Or.inr ⟨1, 1, 0, ux (ux m 0 6 0) 0 6 1, Or.inl ⟨rfl, rfl⟩, rfl, rfl, ux_at, (h.thr 0).thr 1⟩
  rw [(f_hasC h.1 hN eN (nI c)).2 c hc rfl, e, sb, sb, sb, show f_X4_requireIndex 1 = some () from rfl, sb, if_neg (show ¬ (1 : Int32) = 0 by decide), if_neg (show ¬ (1 : Int32) = 0 by decide), in_eq]
  rcases wi_01 a2 0 5 with w1 | w1
  · rw [w1]
    exact Or.inr ⟨2, 2, 0, ux (ux m 0 6 0) 0 6 2, Or.inr (Or.inl ⟨rfl, rfl⟩), rfl, rfl, ux_at, (h.thr 0).thr 2⟩
  rw [w1, sb, sb, sb, show f_X4_requireArgument 1 = some () from rfl, sb, if_neg (show ¬ (1 : Int32) = 0 by decide), if_neg (show ¬ (1 : Int32) = 0 by decide)]
  obtain ⟨v, q1, q2, q3⟩ := why_eq (b := 1) (x := x) (m := ux m 0 6 0) (by rw [hm2]; exact h.1) (by rw [hm2]; exact hI) hc a1 a2
  rw [q1, q2, sb, sb, sb]
  by_cases v0 : v = 0
  · obtain ⟨h0, k, a, hk, ha, rfl⟩ := q3 v0
    rw [hm2] at h0 hk ha
    left
    rw [if_pos v0, if_pos v0]
    obtain ⟨x1, m1, e1, e2, g3, e4, e5, e6⟩ := saved Inv.cong (h.thr 0)
    have e4 : m1 1 = m 1 := e4.trans hm2
    rw [← e4] at hI h0 hk ha hF eN
    have hk4 := hk.1
    have hc24 : c < 24 := by omega
    have hP24 := hI.Plt hc h0
    have hP := hI.P24
    have eP := hI.2.2.2.1
    obtain ⟨k', hk', ⟨v', v1, v2, hv⟩, -⟩ := hI.2.2.2.2.2.2.1 c hc
    unfold f_X4_decide_41
    rw [show f_X4_requireState 1 = some () from rfl, sb, e1, sb, e2, sb, f_of, sb, ag' (e := nI (202 + 10 * c) + 1) (n := 442) (203 + 10 * c) (nI_p _ 1 (by omega)) (by omega), sb, hv, f_group5 v1 v2, sb, ag (show 202 + 10 * c < 442 by omega), sb, hk.2]
    rcases f_bind g3.1 hI hc hk v1 v2 hv with ⟨b1, b2⟩ | ⟨p, p1, p2, b1, b2⟩
    · rw [b1, sb, sb, f_lat5 hk4 (by omega), sb, if_pos (show (0 : Int32) = 0 from rfl), f_newX g3.1 hN eN eP hc hP24 hk ha v1 v2 hv a2 b2, f_new5 eP hc24 hP24 hk ha v1 v2 hv, sb]
      have F := fs_new g3.1 (a := a) hc24 hk4 hP24 v2
      refine ⟨1, _, _, rfl, rfl, ?_, F.R g3 ⟨⟨N, P + 1, ?_⟩, ?_⟩⟩
      · repeat rw [ux_k (by decide)]
        rw [e5 6 (by decide), ux_at]
      · refine hI.decide hc h0 hk ha (by omega) (by omega) ?_ ?_ ?_ ?_ (Or.inr ⟨P, c, by omega, ?_, ?_, hc24, hk, ?_⟩) (fun p hp1 hp2 => ?_) (fun i hi => ?_) (fun i i1 i2 i3 i4 i5 => ?_)
        · repeat rw [ux_j (by omega)]
          exact ux_at
        · repeat rw [ux_j (by omega)]
          exact ux_at
        · repeat rw [ux_j (by omega)]
          exact ux_at
        · repeat rw [ux_j (by omega)]
          exact ux_at
        · repeat rw [ux_j (by omega)]
          exact ux_at
        · rw [show 132 + 3 * P = 130 + 3 * P + 2 by omega]
          repeat rw [ux_j (by omega)]
          exact ux_at
        · rw [if_pos rfl]
          exact ux_at
        · have ep : p = P := by omega
          subst ep
          refine ⟨?_, ?_⟩
          · rw [show 132 + 3 * p = 130 + 3 * p + 2 by omega]
            repeat rw [ux_j (by omega)]
            exact ux_at
          · repeat rw [ux_j (by omega)]
            exact ux_at
        · by_cases w : i = 3 * k + (v' - 1) / 3
          · subst w
            refine Or.inr ⟨by omega, ?_, by omega⟩
            repeat rw [ux_j (by omega)]
            exact ux_at
          · left
            repeat rw [ux_j (by omega)]
        · repeat rw [ux_j (by omega)]
      · refine hF.irr (fun i hi => ?_)
        unfold isfl at hi
        repeat rw [ux_j (by omega)]
    · have hpP := p1
      rw [b1, sb, sb, f_lat5 hk4 (by omega), sb, if_neg (show ¬ (1 : Int32) = 0 by decide), p2, e_pr, ag (show 130 + 3 * p < 442 by omega), sb]
      obtain ⟨s, s9, es, s3, -⟩ := hI.2.2.2.2.2.2.2.1 p p1
      have hne : s ≠ c := fun w => s3 (by rw [w]; exact h0)
      have hsk : kd (m1 1) s k := by
        rcases hI.2.2.2.2.2.2.2.2 (3 * k + (v' - 1) / 3) (by omega) with w | ⟨p', s', w1, w2, w3, w4, w5⟩
        · rw [p2] at w
          exact absurd w (fun w => nI_pos (n := p) (by omega) (by rw [w]; decide))
        · have ep : p = p' := (nI_eq (by omega) (by omega)).mp (p2.symm.trans w2)
          subst ep
          have es' : s = s' := (nI_eq (by omega) (by omega)).mp (es.symm.trans w3)
          subst es'
          exact ⟨hk4, by rw [w5, show (3 * k + (v' - 1) / 3) / 3 = k by omega]⟩
      by_cases q : m1 1 (130 + 3 * p) = nI a
      · rw [if_pos q, f_mk2 g3.1 hN hP eN eP hc hk ha p1 es (by omega) hne a2 b2 q, f_old5 hc24 hk ha (Or.inl ⟨rfl, rfl, rfl⟩), sb]
        have F := fs_old g3.1 (a := a) (h := 2) (f := nI p) (r := 0) hc24 hk4
        refine ⟨2, _, _, rfl, rfl, ?_, F.R g3 ⟨⟨N, P, ?_⟩, ?_⟩⟩
        · repeat rw [ux_k (by decide)]
          rw [e5 6 (by decide), ux_at]
        · refine hI.decide hc h0 hk ha (by omega) (by omega) ?_ ?_ ?_ ?_ (Or.inr ⟨p, s, p1, ?_, ?_, by omega, hsk, ?_⟩) (fun p hp1 hp2 => absurd hp1 (by omega)) (fun i hi => ?_) (fun i i1 i2 i3 i4 i5 => ?_)
          · repeat rw [ux_j (by omega)]
            exact eP
          · repeat rw [ux_j (by omega)]
            exact ux_at
          · repeat rw [ux_j (by omega)]
            exact ux_at
          · repeat rw [ux_j (by omega)]
            exact ux_at
          · repeat rw [ux_j (by omega)]
            exact ux_at
          · repeat rw [ux_j (by omega)]
            exact es
          · rw [if_neg hne]
            exact ux_at
          · left
            repeat rw [ux_j (by omega)]
          · repeat rw [ux_j (by omega)]
        · refine hF.irr (fun i hi => ?_)
          unfold isfl at hi
          repeat rw [ux_j (by omega)]
      · rw [if_neg q, f_mk3 g3.1 hN hP eN eP hc hk ha p1 a2 b2 q, f_old5 hc24 hk ha (Or.inr ⟨rfl, rfl, rfl⟩), sb]
        have F := fs_old g3.1 (a := a) (h := 3) (f := -1) (r := a2) hc24 hk4
        refine ⟨3, _, _, rfl, rfl, ?_, F.R g3 ⟨⟨N, P, ?_⟩, ?_⟩⟩
        · repeat rw [ux_k (by decide)]
          rw [e5 6 (by decide), ux_at]
        · refine hI.decide hc h0 hk ha (by omega) (by omega) ?_ ?_ ?_ ?_ (Or.inl ⟨?_, ?_⟩) (fun p hp1 hp2 => absurd hp1 (by omega)) (fun i hi => ?_) (fun i i1 i2 i3 i4 i5 => ?_)
          · repeat rw [ux_j (by omega)]
            exact eP
          · repeat rw [ux_j (by omega)]
            exact ux_at
          · repeat rw [ux_j (by omega)]
            exact ux_at
          · repeat rw [ux_j (by omega)]
            exact ux_at
          · exact ux_at
          · repeat rw [ux_j (by omega)]
            exact ux_at
          · left
            repeat rw [ux_j (by omega)]
          · repeat rw [ux_j (by omega)]
        · refine hF.irr (fun i hi => ?_)
          unfold isfl at hi
          repeat rw [ux_j (by omega)]
  · rw [if_neg v0, if_neg v0]
    refine Or.inr ⟨3, 3, 0, ux (ux m 0 6 0) 0 6 3, Or.inr (Or.inr ⟨rfl, rfl⟩), ?_, rfl, ux_at, (h.thr 0).thr 3⟩
    rw [if_neg v0]
    rfl
