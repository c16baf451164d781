theorem op_0 : P_0 RI := by
  intro x m a0 a1 a2 a3 h
  have hm2 : (ux m 0 6 0) 1 = m 1 := ux_ne (by decide)
  unfold f_X4_offer t_X4_offer f_X5_offer
  rw [in_eq, in_eq, in_eq]
  rcases kind_cases a0 with ⟨h1, h2⟩ | ⟨k, hk, rfl, h1, h2⟩
  · rw [h1, h2]
    exact Or.inr ⟨1, 1, 0, ux (ux m 0 6 0) 0 6 1, Or.inl ⟨rfl, rfl⟩, rfl, rfl, ux_at, (h.thr 0).thr 1⟩
  · obtain ⟨s, hs, es⟩ := h.2.1.size hk
    rw [h1, h2]
    rcases wi_01 a1 0 999 with w1 | w1
    · rw [w1]; exact Or.inr ⟨2, 2, 0, ux (ux m 0 6 0) 0 6 2, Or.inr (Or.inl ⟨rfl, rfl⟩), rfl, rfl, ux_at, (h.thr 0).thr 2⟩
    rcases wi_01 a2 1 9 with w2 | w2
    · rw [w1, w2]; exact Or.inr ⟨2, 2, 0, ux (ux m 0 6 0) 0 6 2, Or.inr (Or.inl ⟨rfl, rfl⟩), rfl, rfl, ux_at, (h.thr 0).thr 2⟩
    rcases wi_01 a3 a2 9 with w3 | w3
    · rw [w1, w2, w3]; exact Or.inr ⟨2, 2, 0, ux (ux m 0 6 0) 0 6 2, Or.inr (Or.inl ⟨rfl, rfl⟩), rfl, rfl, ux_at, (h.thr 0).thr 2⟩
    rw [w1, w2, w3]
    simp -implicitDefEqProofs only [sb]
    rw [show f_X4_requireIndex 1 = some () from rfl, show f_X4_requireArgument 1 = some () from rfl]
    simp -implicitDefEqProofs only [sb]
    rw [f_size h.1 hk es, f_at]
    simp -implicitDefEqProofs only [sb]
    rw [if_neg (show ¬ (1 : Int32) = 0 by decide), ag' (e := nI (6 + 28 * k) + 3) (n := 442) (9 + 28 * k) (nI_p _ 3 (by omega)) (by omega), sb, hm2, es]
    by_cases h6 : s = 6
    · subst h6
      rw [if_pos (show (6 : Int32) ≤ nI 6 by decide), if_pos (show (6 : Int32) ≤ nI 6 by decide), if_neg (show ¬ (1 : Int32) = 0 by decide), if_neg (show ¬ (1 : Int32) = 0 by decide), if_neg (show ¬ (1 : Int32) = 0 by decide), if_neg (show ¬ (1 : Int32) = 0 by decide), if_neg (show ¬ (1 : Int32) = 0 by decide), if_neg (show ¬ (1 : Int32) = 0 by decide), if_neg (show ¬ (1 : Int32) = 0 by decide), if_pos (show nI 6 = (6 : Int32) from rfl)]
      exact Or.inr ⟨3, 3, 0, ux (ux m 0 6 0) 0 6 3, Or.inr (Or.inr ⟨rfl, rfl⟩), rfl, rfl, ux_at, (h.thr 0).thr 3⟩
    · left
      obtain ⟨x1, m1, e1, e2, e3, e4, e5, e6⟩ := saved Inv.cong (h.thr 0)
      have e4 : m1 1 = m 1 := e4.trans hm2
      have es1 : m1 1 (9 + 28 * k) = nI s := by rw [e4]; exact es
      have hs6 : s < 6 := by omega
      have F1 := (FS.rf e3.1).put (zx_am (j := 0) (by decide) hk hs6) a1
      have F2 := F1.put (zx_am (j := 1) (by decide) hk hs6) a2
      have F3 := F2.put (zx_am (j := 2) (by decide) hk hs6) a3
      have F4 := F3.put (zx_am (j := 3) (by decide) hk hs6) 1
      have F5 := F4.put (zx_size hk) (nI (s + 1))
      refine ⟨nI s, _, _, ?_, ?_, ?_, F5.R e3 ?_⟩
      · rw [if_neg (show ¬ (6 : Int32) ≤ nI s from nI_ge (a := s) (b := 6) hs6 (by decide))]
        unfold f_X4_offer_60
        rw [show f_X4_requireState 1 = some () from rfl, sb, e1, sb]
        unfold f_X1_add
        rw [f_kind1 hk, sb, if_neg (by decide), ag hk, sb, show x1 (1 + 2) k = nI s by rw [sm_size e3.1 hk]; exact es1, if_pos (show nI s < (6 : Int32) from nI_lt (b := 6) hs6 (by decide)), sb, sb, ix6, asn (by omega), sb, asn (by omega), sb, asn (by omega), sb, asn (by omega), sb, asn hk, sb, nI_1]
        rfl
      · rw [if_neg (show ¬ (1 : Int32) = 0 by decide), if_neg (show ¬ (1 : Int32) = 0 by decide), if_neg (show ¬ (1 : Int32) = 0 by decide), if_neg (show ¬ nI s = (6 : Int32) from fun q => h6 ((nI_eq (by omega) (by decide)).mp (q.trans rfl))), e2]
        simp -implicitDefEqProofs only [sb]
        rw [ag' (e := nI (6 + 28 * k) + 3) (n := 442) (9 + 28 * k) (nI_p _ 3 (by omega)) (by omega), sb, es1, f_menuAt, sb]
        rw [asn (by omega), sb, asn' (e := nI (10 + 28 * k + 4 * s) + 1) (10 + 28 * k + 4 * s + 1) (nI_1 _) (by omega), sb, asn' (e := nI (10 + 28 * k + 4 * s) + 2) (10 + 28 * k + 4 * s + 2) (nI_p _ 2 rfl) (by omega), sb, asn' (e := nI (10 + 28 * k + 4 * s) + 3) (10 + 28 * k + 4 * s + 3) (nI_p _ 3 rfl) (by omega), sb]
        rw [ag' (e := nI (6 + 28 * k) + 3) (n := 442) (9 + 28 * k) (nI_p _ 3 (by omega)) (by omega), sb, ux_j (by omega), ux_j (by omega), ux_j (by omega), ux_j (by omega), es1, asn' (e := nI (6 + 28 * k) + 3) (9 + 28 * k) (nI_p _ 3 (by omega)) (by omega), sb, nI_1, ag' (e := nI (6 + 28 * k) + 3) (n := 442) (9 + 28 * k) (nI_p _ 3 (by omega)) (by omega), sb, ux_at, nI_pred]
        rfl
      · rw [ux_k (by decide), ux_k (by decide), ux_k (by decide), ux_k (by decide), ux_k (by decide), e5 6 (by decide), ux_at]
      · refine Inv.offer (k0 := k) (s := s) e3.2.1 hk hs6 es1 ux_at ?_ (fun i hi q1 q2 => ?_)
        · rw [ux_j (by omega), show 13 + 28 * k + 4 * s = 10 + 28 * k + 4 * s + 3 by omega, ux_at]
        · rw [ux_j q1, ux_j (by omega), ux_j (by omega), ux_j (by omega), ux_j (by omega)]
