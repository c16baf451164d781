/-! ===== why a decision is refused ===== -/
theorem i_asc (a b : Int32) : a + (b - a) = b := by rw [Int32.add_comm, Int32.sub_add_cancel]
theorem ux_swap {x : XS} {k i j : Nat} {v w : Int32} (h : i ≠ j) : ux (ux x k i v) k j w = ux (ux x k j w) k i v := by
  funext q l
  by_cases hq : q = k
  · subst hq
    by_cases h1 : l = i
    · subst h1
      rw [ux_j h, ux_at, ux_at]
    · by_cases h2 : l = j
      · subst h2
        rw [ux_at, ux_j h1, ux_at]
      · rw [ux_j h2, ux_j h1, ux_j h1, ux_j h2]
  · rw [ux_k hq, ux_k hq, ux_k hq, ux_k hq]
theorem zc {j c i : Nat} (hj : j < 9) (hc : c < 24) (e : 202 + 10 * c + j = i) : zx (8 + j) c = some i := by rw [← e]; exact zx_co hj hc
theorem f_mostX {b : Nat} {x : XS} {z : ZS} (hS : Sim b x z) {k a : Nat} (hk : k < 4) (h : hasA z k a) : f_X1_mostOf b x (nI k) (nI a) = some (z (10 + 28 * k + 4 * a + 2)) := by
  obtain ⟨s, s0, s1, s2⟩ := h
  unfold f_X1_mostOf
  rw [(f_has hS hk s0 s1 (nI a)).2 a s2 rfl, sb, if_neg (by decide), ix6, ag (by omega), sb]
  exact congrArg some (sm_am (j := 2) hS (by decide) hk (by omega))
theorem why_eq {b : Nat} {x m : XS} (hS : Sim b x (m 1)) {N P c : Nat} (hI : InvNP (m 1) N P) (hc : c < N) (a a2 : Int32) :
    ∃ v, f_X3_againstDecision b x (nI c) a a2 = some v ∧ f_X5_whyDecided m (nI c) a a2 = some v ∧ (v = 0 → m 1 (205 + 10 * c) = 0 ∧ ∃ k j, kd (m 1) c k ∧ hasA (m 1) k j ∧ a = nI j) := by
  have hN := hI.1
  have eN := hI.2.1
  have eP := hI.2.2.2.1
  have hP := hI.P24
  obtain ⟨k, hk, ⟨v, v1, v2, hv⟩, -⟩ := hI.2.2.2.2.2.2.1 c hc
  have hk4 := hk.1
  obtain ⟨s, t1, t2⟩ := hI.2.2.2.2.2.1 k hk4
  unfold f_X3_againstDecision f_X5_whyDecided
  rw [f_kindOf hS hN eN hc, sb, f_stageOf hS hN eN hc, sb, f_of, sb, ag (by omega), sb, sb, ag' (e := nI (202 + 10 * c) + 1) (n := 442) (203 + 10 * c) (nI_p _ 1 (by omega)) (by omega), sb, hv, f_group5 v1 v2, sb, sb, ag' (e := nI (202 + 10 * c) + 3) (n := 442) (205 + 10 * c) (nI_p _ 3 (by omega)) (by omega), sb, hk.2]
  by_cases h0 : m 1 (205 + 10 * c) = 0
  · rw [if_pos h0, if_pos h0]
    rcases f_isOff hS hk4 t1 t2 a with ⟨f1, f2⟩ | ⟨j, j1, rfl, -, f1, f2⟩
    · rw [f1, f2]
      exact ⟨2, rfl, rfl, fun q => absurd q (by decide)⟩
    · have ha : hasA (m 1) k j := ⟨s, t1, t2, j1⟩
      have T : ∃ w, f_X3_againstDecision_93 b x (nI j) (nI k) = some w ∧ f_X5_whyDecided_106 m (nI j) (nI k) = some w := by
        unfold f_X3_againstDecision_93 f_X5_whyDecided_106
        rw [f_costX hS hk4 ha, sb, f_leftX hS hk4, sb, f_cost5 hk4 (by omega), sb, f_left5 hk4, sb]
        by_cases q : m 1 (10 + 28 * k + 4 * j) ≤ m 1 (7 + 28 * k) - m 1 (8 + 28 * k)
        · rw [if_pos q]; exact ⟨0, rfl, rfl⟩
        · rw [if_neg q]; exact ⟨5, rfl, rfl⟩
      obtain ⟨w, T1, T2⟩ := T
      have hR : (w = 0 → m 1 (205 + 10 * c) = 0 ∧ ∃ k j', kd (m 1) c k ∧ hasA (m 1) k j' ∧ nI j = nI j') := fun _ => ⟨h0, k, j, hk, ha, rfl⟩
      rw [f1, f2, sb, sb, if_neg (show ¬ (1 : Int32) = 0 by decide), if_neg (show ¬ (1 : Int32) = 0 by decide), f_sevOf hS hN eN hc, sb, hv]
      unfold f_X1_covers f_X5_fits
      rw [f_leastX hS hk4 ha, sb, f_mostX hS hk4 ha, sb, f_of, sb, ag (by omega), sb, hk.2, f_menuAt, sb, sb, ag' (e := nI (202 + 10 * c) + 1) (n := 442) (203 + 10 * c) (nI_p _ 1 (by omega)) (by omega), sb, ag' (e := nI (10 + 28 * k + 4 * j) + 1) (n := 442) (10 + 28 * k + 4 * j + 1) (nI_p _ 1 rfl) (by omega), sb, ag' (e := nI (10 + 28 * k + 4 * j) + 2) (n := 442) (10 + 28 * k + 4 * j + 2) (nI_p _ 2 rfl) (by omega), sb, in_eq, hv]
      rcases wi_01 (nI v) (m 1 (10 + 28 * k + 4 * j + 1)) (m 1 (10 + 28 * k + 4 * j + 2)) with u | u
      · rw [u]
        exact ⟨3, rfl, rfl, fun q => absurd q (by decide)⟩
      · rw [u, sb, if_pos (show (1 : Int32) = 0 ∨ (1 : Int32) = 1 from Or.inr rfl), sb, if_neg (show ¬ (1 : Int32) = 0 by decide), sb, if_neg (show ¬ (1 : Int32) = 0 by decide)]
        rcases f_bind hS hI hc hk v1 v2 hv with ⟨b1, b2⟩ | ⟨p, p1, p2, b1, b2⟩
        · rw [b1, b2, sb, sb, if_pos (show (-1 : Int32) = -1 from rfl), if_pos (show (0 : Int32) = 0 from rfl), T1, T2]
          exact ⟨w, rfl, rfl, hR⟩
        · rw [b1, b2, sb, sb, if_neg (show ¬ nI p = -1 from fun w => nI_pos (n := p) (by omega) (by rw [w]; decide)), if_neg (show ¬ (1 : Int32) = 0 by decide), f_amP hS hP eP p1, sb, f_lat5 hk4 (by omega), sb, p2, e_pr, ag (by omega), sb]
          by_cases q : m 1 (130 + 3 * p) = nI j
          · rw [if_pos q, if_pos q, T1, T2]
            exact ⟨w, rfl, rfl, hR⟩
          · rw [if_neg q, if_neg q]
            by_cases q2 : a2 = 0
            · rw [if_pos q2, if_pos q2]
              exact ⟨4, rfl, rfl, fun q => absurd q (by decide)⟩
            · rw [if_neg q2, if_neg q2, T1, T2]
              exact ⟨w, rfl, rfl, hR⟩
  · rw [if_neg h0, if_neg h0]
    exact ⟨1, rfl, rfl, fun q => absurd q (by decide)⟩
