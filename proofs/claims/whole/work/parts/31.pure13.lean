/-! ===== costs, what is left, precedents ===== -/
theorem f_cost5 {m : XS} {k a : Nat} (hk : k < 4) (ha : a < 6) : f_X5_cost m (nI k) (nI a) = some (m 1 (10 + 28 * k + 4 * a)) := by
  unfold f_X5_cost
  rw [f_menuAt, sb, ag (by omega), sb]
theorem f_costX {b : Nat} {x : XS} {z : ZS} (hS : Sim b x z) {k a : Nat} (hk : k < 4) (h : hasA z k a) : f_X1_costOf b x (nI k) (nI a) = some (z (10 + 28 * k + 4 * a)) := by
  obtain ⟨s, s0, s1, s2⟩ := h
  unfold f_X1_costOf
  rw [(f_has hS hk s0 s1 (nI a)).2 a s2 rfl, sb, if_neg (by decide), ix6, ag (by omega), sb]
  exact congrArg some (sm_am (j := 0) hS (by decide) hk (by omega))
theorem f_leastX {b : Nat} {x : XS} {z : ZS} (hS : Sim b x z) {k a : Nat} (hk : k < 4) (h : hasA z k a) : f_X1_leastOf b x (nI k) (nI a) = some (z (10 + 28 * k + 4 * a + 1)) := by
  obtain ⟨s, s0, s1, s2⟩ := h
  unfold f_X1_leastOf
  rw [(f_has hS hk s0 s1 (nI a)).2 a s2 rfl, sb, if_neg (by decide), ix6, ag (by omega), sb]
  exact congrArg some (sm_am (j := 1) hS (by decide) hk (by omega))
theorem f_left5 {m : XS} {k : Nat} (hk : k < 4) : f_X5_left m (nI k) = some (m 1 (7 + 28 * k) - m 1 (8 + 28 * k)) := by
  unfold f_X5_left
  rw [f_at, sb, ag' (e := nI (6 + 28 * k) + 1) (n := 442) (7 + 28 * k) (nI_p _ 1 (by omega)) (by omega), sb, sb, ag' (e := nI (6 + 28 * k) + 2) (n := 442) (8 + 28 * k) (nI_p _ 2 (by omega)) (by omega), sb]
theorem f_leftX {b : Nat} {x : XS} {z : ZS} (hS : Sim b x z) {k : Nat} (hk : k < 4) : f_X3_leftOf b x (nI k) = some (z (7 + 28 * k) - z (8 + 28 * k)) := by
  unfold f_X3_leftOf
  rw [f_kind1 hk, sb, if_neg (by decide), ag hk, sb, ag hk, sb, sm_bud hS hk, sm_spent hS hk]
