/-! judging now -/
theorem judge_now {b : Nat} {x m : XS} (hS : Sim b x (m 1)) {N P c k a : Nat} (hI : InvNP (m 1) N P) (hc : c < N) (h0 : m 1 (205 + 10 * c) = 2) (hk : kd (m 1) c k) (ha : hasA (m 1) k a) :
    ∃ x1 m1, f_X3_makeJudgement b x (nI c) (nI a) = some (m1 0 7, x1) ∧ f_X5_judgeNow m (nI c) (nI a) = some (m1 1 (8 + 28 * k) - m 1 (8 + 28 * k), m1) ∧ FS b x m x1 m1 ∧ InvNP (m1 1) N P ∧ (∀ i, isfl i → m1 1 i = m 1 i) ∧ m1 1 (8 + 28 * k) - m 1 (8 + 28 * k) = tg (m1 1) N - tg (m 1) N := by
  have hN := hI.1
  have eN := hI.2.1
  have hP := hI.P24
  have hk4 := hk.1
  have hc24 : c < 24 := by omega
  have ha6 : a < 6 := by obtain ⟨s, q0, q1, q2⟩ := ha; omega
  obtain ⟨mm, hmm⟩ : ∃ mm, mm = ux m 0 7 0 := ⟨_, rfl⟩
  have hm1 : mm 1 = m 1 := by rw [hmm]; exact ux_ne (by decide)
  have hm7 : mm 0 7 = 0 := by rw [hmm]; exact ux_at
  have F0 : FS b x m x mm := by rw [hmm]; exact (FS.rf hS).tell 0
  obtain ⟨x1, m1, g1, g2, g3, g4, g5, g6, g7⟩ := do_step F0.1 (by rw [hm1]; exact hI) hc (by rw [hm1, h0]; decide) (by rw [hm1]; exact hk) (by rw [hm1]; exact ha)
  rw [hm1] at g5 g6
  have e205 : m1 1 (205 + 10 * c) = nI 2 := by rw [g5 _ (by unfold gvx; omega), h0]; rfl
  have hI3 : InvNP ((ux m1 1 (205 + 10 * c) 3) 1) N P := by rw [ux_eq]; exact g4.stage hc e205 (by decide) (by decide) (st1 := 3) (by decide) (by decide)
  have F3 : FS b x m (ux x1 (b + 11) c 3) (ux m1 1 (205 + 10 * c) 3) := (F0.tr g3).put (show zx 11 c = some (205 + 10 * c) from zc (j := 3) (by decide) hc24 (by omega)) 3
  have e3 : ∀ i, ¬ gvx i → i ≠ 205 + 10 * c → (ux m1 1 (205 + 10 * c) 3) 1 i = m 1 i := fun i hi hj => by rw [ux_j hj]; exact g5 i hi
  have s3 : (ux m1 1 (205 + 10 * c) 3) 1 (8 + 28 * k) - m 1 (8 + 28 * k) = tg ((ux m1 1 (205 + 10 * c) 3) 1) N - tg (m 1) N := by
    rw [ux_j (by omega), tg_congr (z := m1 1) N (fun d hd => ux_j (by omega))]
    exact g6
  have k3 : kd ((ux m1 1 (205 + 10 * c) 3) 1) c k := ⟨hk4, by rw [e3 _ (by unfold gvx; omega) (by omega)]; exact hk.2⟩
  have hA3 : ∀ {a : Nat}, hasA (m 1) k a → hasA ((ux m1 1 (205 + 10 * c) 3) 1) k a := fun q => by
    obtain ⟨s, q0, q1, q2⟩ := q
    exact ⟨s, q0, by rw [e3 _ (by unfold gvx; omega) (by omega), q1], q2⟩
  have t3 : (ux m1 1 (205 + 10 * c) 3) 0 7 = 0 := by rw [ux_k (by decide), g7, hm7]
  obtain ⟨m3, hm3⟩ : ∃ m3, m3 = ux m1 1 (205 + 10 * c) 3 := ⟨_, rfl⟩
  obtain ⟨x3, hx3⟩ : ∃ x3, x3 = ux x1 (b + 11) c 3 := ⟨_, rfl⟩
  rw [← hm3] at hI3 F3 e3 s3 k3 t3
  rw [← hx3] at F3
  have hA3 : ∀ {a : Nat}, hasA (m 1) k a → hasA (m3 1) k a := by rw [hm3]; exact hA3
  have eN3 := hI3.2.1
  have h114 : ∀ m4 : XS, f_X5_judgeNow_114 m4 (nI k) (m 1 (8 + 28 * k)) = some (m4 1 (8 + 28 * k) - m 1 (8 + 28 * k), m4) := fun m4 => by
    unfold f_X5_judgeNow_114
    rw [f_at, sb, ag' (e := nI (6 + 28 * k) + 2) (n := 442) (8 + 28 * k) (nI_p _ 2 (by omega)) (by omega), sb]
  have hch : f_X0_changeStage b x1 (nI c) 3 = some x3 := by
    unfold f_X0_changeStage
    rw [(f_hasC (F0.tr g3).1 hN (by rw [g5 0 (by unfold gvx; omega)]; exact eN) (nI c)).2 c hc rfl, sb, if_neg (show ¬ (1 : Int32) = 0 by decide), asn hc24, sb, hx3]
  unfold f_X3_makeJudgement f_X5_judgeNow
  rw [g1, sb, hch, sb, f_kindOf F3.1 hN eN3 hc, sb, k3.2, f_folOf F3.1 hN eN3 hc, sb, e3 (210 + 10 * c) (by unfold gvx; omega) (by omega)]
  rw [f_of, sb, ag (by omega), sb, hk.2, sb, ag' (e := nI (202 + 10 * c) + 8) (n := 442) (210 + 10 * c) (nI_p _ 8 (by omega)) (by omega), sb, f_at, sb, ag' (e := nI (6 + 28 * k) + 2) (n := 442) (8 + 28 * k) (nI_p _ 2 (by omega)) (by omega), sb, sb, ← hmm, g2, sb, sb, asn' (e := nI (202 + 10 * c) + 3) (205 + 10 * c) (nI_p _ 3 (by omega)) (by omega), sb, ← hm3]
  obtain ⟨kq, kq1, kq2, st, kq3, s2, kq4, s4⟩ := hI.2.2.2.2.2.2.1 c hc
  by_cases hf : m 1 (210 + 10 * c) = -1
  · obtain ⟨s, t1, t2⟩ := hI3.2.2.2.2.2.1 k hk4
    obtain ⟨v, hv⟩ := f_costAny F3.1 hk4 t1 t2 (-1)
    have hp1 : f_X2_amendsOf b x3 (-1) = some (-1) := by
      unfold f_X2_amendsOf
      rw [(f_hasP F3.1 hP hI3.2.2.2.1 (-1)).1 (Or.inl (by decide)), sb, if_pos rfl]
    rw [hf, hp1, sb, hv, sb, if_pos (show (-1 : Int32) = -1 from rfl), if_pos (show (-1 : Int32) = -1 from rfl), h114]
    exact ⟨x3, m3, by rw [t3], rfl, F3, hI3, fun i hi => e3 i (by unfold isfl at hi; unfold gvx; omega) (by unfold isfl at hi; omega), s3⟩
  · have st0 : st ≠ 0 := fun w => by rw [s2, w] at h0; exact absurd h0 (by decide)
    rcases (s4 st0).2 with ⟨-, w⟩ | ⟨p, -, b1, b2, -⟩
    · exact absurd w hf
    · obtain ⟨-, -, k', s, ap, d1, d2, d3, d4, d5, d6⟩ := hI.fol hc (by omega) b2
      have ek : k' = k := d1.uniq hk
      subst ek
      have hap : ap < 6 := by obtain ⟨s, q0, q1, q2⟩ := d6; omega
      have e130 : m3 1 (130 + 3 * p) = nI ap := by rw [e3 _ (by unfold gvx; omega) (by omega)]; exact d5
      have w1 := (f_amP F3.1 hP hI3.2.2.2.1 b1).trans (congrArg some e130)
      have w2 : f_X5_cost m3 (nI k') (nI a) = some (m3 1 (10 + 28 * k' + 4 * a)) := f_cost5 hk4 ha6
      have w3 : f_X5_cost m3 (nI k') (nI ap) = some (m3 1 (10 + 28 * k' + 4 * ap)) := f_cost5 hk4 hap
      rw [b2, w1, sb, f_costX F3.1 hk4 (hA3 d6), sb, if_neg (show ¬ nI p = -1 from fun w => nI_pos (n := p) (by omega) (by rw [w]; decide)), if_neg (show ¬ nI p = -1 from fun w => nI_pos (n := p) (by omega) (by rw [w]; decide)), f_costX F3.1 hk4 (hA3 ha), sb, w2, sb, e_pr, ag (show 130 + 3 * p < 442 by omega), sb, e130, w3, sb]
      by_cases q : m3 1 (10 + 28 * k' + 4 * a) ≤ m3 1 (10 + 28 * k' + 4 * ap)
      · rw [if_pos q, if_neg (fun w => Int32.lt_irrefl (Int32.lt_of_lt_of_le w q)), h114]
        exact ⟨x3, m3, by rw [t3], rfl, F3, hI3, fun i hi => e3 i (by unfold isfl at hi; unfold gvx; omega) (by unfold isfl at hi; omega), s3⟩
      · rw [if_neg q, if_pos (Int32.not_le.mp q), asn (show 130 + 3 * p < 442 by omega), sb]
        have hr : f_X2_raise b x3 (nI p) (nI a) = some (ux x3 (b + 18) p (nI a)) := by
          unfold f_X2_raise
          rw [(f_hasP F3.1 hP hI3.2.2.2.1 (nI p)).2 p b1 rfl, sb, if_neg (show ¬ (1 : Int32) = 0 by decide), asn (by omega), sb]
        have F4 := ((F3.put (show zx 18 p = some (130 + 3 * p) from zx_pr (j := 0) (by decide) (by omega)) (nI a)).tell 0)
        obtain ⟨m4, hm4⟩ : ∃ m4, m4 = ux (ux m3 1 (130 + 3 * p) (nI a)) 0 7 0 := ⟨_, rfl⟩
        rw [← hm4] at F4
        have h41 : m4 1 = upd (m3 1) (130 + 3 * p) (nI a) := by rw [hm4, ux_ne (by decide), ux_eq]
        have h47 : m4 0 7 = 0 := by rw [hm4]; exact ux_at
        have e4 : ∀ i, i ≠ 130 + 3 * p → m4 1 i = m3 1 i := fun i hi => by rw [h41, pk_un hi]
        have hI4 : InvNP (m4 1) N P := by
          rw [h41]
          exact hI3.raise b1 (by rw [e3 _ (by unfold gvx; omega) (by omega)]; exact d2) d3 ⟨hk4, by rw [e3 _ (by unfold gvx; omega) (by omega)]; exact d4.2⟩ (hA3 ha)
        obtain ⟨x5, m5, t5, i1, i2, i3, i4, i5, i6⟩ := judge_loop (b := b) (N := N) (P := P) (c0 := c) (k := k') (p := p) hc (by omega) N 4096 0 (ux x3 (b + 18) p (nI a)) m4 0 (by omega) (by omega) F4.1 hI4 (by rw [e4 _ (by omega), e3 _ (by unfold gvx; omega) (by omega)]; exact b2) ⟨hk4, by rw [e4 _ (by omega)]; exact k3.2⟩
        rw [h47] at i1
        have i1 : f_X3_makeJudgement_91 b 4096 (ux x3 (b + 18) p (nI a)) (nI p) 0 0 = some (m5 0 7, x5) := i1
        have i2 : f_X5_topUps_9 4096 m4 (nI p) 0 0 = some (t5, m5) := i2
        rw [hr, sb, i1]
        unfold f_X5_topUps
        rw [sb, ← hm4, i2, sb]
        refine ⟨x5, m5, rfl, h114 m5, F4.tr i3, i4, fun i hi => ?_, ?_⟩
        · rw [i5 i (by unfold isfl at hi; unfold gvx; omega), e4 i (by unfold isfl at hi; omega), e3 i (by unfold isfl at hi; unfold gvx; omega) (by unfold isfl at hi; omega)]
        · rw [e4 (8 + 28 * k') (by omega), tg_congr (z := m3 1) N (fun d hd => e4 _ (by omega))] at i6
          exact i_tele s3 i6
