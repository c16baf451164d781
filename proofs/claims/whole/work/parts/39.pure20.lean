/-! ===== judge ===== -/
theorem i_tel (c b a : Int32) : (c - b) + (b - a) = c - a := by rw [Int32.sub_eq_add_neg, Int32.sub_eq_add_neg, Int32.sub_eq_add_neg, Int32.add_assoc, ← Int32.add_assoc (-b), Int32.add_left_neg, Int32.zero_add]
theorem i_tele {a b c t u v : Int32} (h1 : b - a = u - t) (h2 : c - b = v - u) : c - a = v - t := by rw [← i_tel c b a, h2, h1, i_tel]
theorem judge_eq {b : Nat} {x m : XS} (hS : Sim b x (m 1)) {N P c : Nat} (hI : InvNP (m 1) N P) (hc : c < N) (a : Int32) :
    ∃ v, f_X3_againstJudgement b x (nI c) a = some v ∧ f_X5_whyJudged m (nI c) a = some v ∧ (v = 0 → m 1 (205 + 10 * c) = 2 ∧ ∃ k j, kd (m 1) c k ∧ hasA (m 1) k j ∧ a = nI j) := by
  have hN := hI.1
  have eN := hI.2.1
  have hP := hI.P24
  obtain ⟨k, hk, ⟨v, v1, v2, hv⟩, st, s1, s2, s3, s4⟩ := hI.2.2.2.2.2.2.1 c hc
  have hk4 := hk.1
  obtain ⟨s, t1, t2⟩ := hI.2.2.2.2.2.1 k hk4
  unfold f_X3_againstJudgement f_X5_whyJudged
  rw [f_kindOf hS hN eN hc, sb, f_stageOf hS hN eN hc, sb, f_of, sb, ag (by omega), sb, sb, ag' (e := nI (202 + 10 * c) + 3) (n := 442) (205 + 10 * c) (nI_p _ 3 (by omega)) (by omega), sb, hk.2]
  by_cases h0 : m 1 (205 + 10 * c) = 2
  · rw [if_pos h0, if_pos h0]
    have st0 : st ≠ 0 := fun w => by rw [s2, w] at h0; exact absurd h0 (by decide)
    obtain ⟨⟨ga, g1, g2, g3⟩, -⟩ := s4 st0
    have hga : ga < 6 := by obtain ⟨s, q0, q1, q2⟩ := g1; omega
    rcases f_isOff hS hk4 t1 t2 a with ⟨f1, f2⟩ | ⟨j, j1, rfl, -, f1, f2⟩
    · rw [f1, f2]
      exact ⟨2, rfl, rfl, fun q => absurd q (by decide)⟩
    · have ha : hasA (m 1) k j := ⟨s, t1, t2, j1⟩
      rw [f1, f2, sb, sb, if_neg (show ¬ (1 : Int32) = 0 by decide), if_neg (show ¬ (1 : Int32) = 0 by decide), f_sevOf hS hN eN hc, sb, hv]
      unfold f_X1_covers f_X5_fits
      rw [f_leastX hS hk4 ha, sb, f_mostX hS hk4 ha, sb, f_of, sb, ag (by omega), sb, hk.2, f_menuAt, sb, sb, ag' (e := nI (202 + 10 * c) + 1) (n := 442) (203 + 10 * c) (nI_p _ 1 (by omega)) (by omega), sb, ag' (e := nI (10 + 28 * k + 4 * j) + 1) (n := 442) (10 + 28 * k + 4 * j + 1) (nI_p _ 1 rfl) (by omega), sb, ag' (e := nI (10 + 28 * k + 4 * j) + 2) (n := 442) (10 + 28 * k + 4 * j + 2) (nI_p _ 2 rfl) (by omega), sb, in_eq, hv]
      rcases wi_01 (nI v) (m 1 (10 + 28 * k + 4 * j + 1)) (m 1 (10 + 28 * k + 4 * j + 2)) with u | u
      · rw [u]
        exact ⟨3, rfl, rfl, fun q => absurd q (by decide)⟩
      · rw [u, sb, if_pos (show (1 : Int32) = 0 ∨ (1 : Int32) = 1 from Or.inr rfl), sb, if_neg (show ¬ (1 : Int32) = 0 by decide), sb, if_neg (show ¬ (1 : Int32) = 0 by decide)]
        rw [f_costX hS hk4 ha, sb, f_gotOf hS hN eN hc, sb, sb, f_cost5 hk4 (by omega), sb, sb, ag' (e := nI (202 + 10 * c) + 4) (n := 442) (206 + 10 * c) (nI_p _ 4 (by omega)) (by omega), sb, g2, f_cost5 hk4 hga, sb, sb, f_leftX hS hk4, f_left5 hk4, sb, sb, g3]
        by_cases q : 0 ≤ m 1 (10 + 28 * k + 4 * j) - m 1 (10 + 28 * k + 4 * ga)
        · rw [if_pos q]
          by_cases q2 : m 1 (10 + 28 * k + 4 * j) - m 1 (10 + 28 * k + 4 * ga) ≤ m 1 (7 + 28 * k) - m 1 (8 + 28 * k)
          · rw [if_pos q2]
            exact ⟨0, rfl, rfl, fun _ => ⟨h0, k, j, hk, ha, rfl⟩⟩
          · rw [if_neg q2]
            exact ⟨5, rfl, rfl, fun q => absurd q (by decide)⟩
        · rw [if_neg q]
          exact ⟨4, rfl, rfl, fun q => absurd q (by decide)⟩
  · rw [if_neg h0, if_neg h0]
    exact ⟨1, rfl, rfl, fun q => absurd q (by decide)⟩
theorem f_costAny {b : Nat} {x : XS} {z : ZS} (hS : Sim b x z) {k s : Nat} (hk : k < 4) (hs : s ≤ 6) (h : z (9 + 28 * k) = nI s) (a : Int32) : ∃ v, f_X1_costOf b x (nI k) a = some v := by
  rcases pk_ix a (n := s) (by omega) with h1 | h1 | ⟨j, hj, rfl⟩
  · unfold f_X1_costOf
    rw [(f_has hS hk hs h a).1 (Or.inl h1), sb, if_pos rfl]
    exact ⟨_, rfl⟩
  · unfold f_X1_costOf
    rw [(f_has hS hk hs h a).1 (Or.inr h1), sb, if_pos rfl]
    exact ⟨_, rfl⟩
  · exact ⟨_, f_costX hS hk ⟨s, hs, h, hj⟩⟩
