/-! ===== counting ===== -/
theorem f_uneq_in {b : Nat} {x m : XS} (hS : Sim b x (m 1)) {N P : Nat} (hI : InvNP (m 1) N P) {c : Nat} (hc : c < N) {k4 k4' : Int32 → Int32 → Option Int32} (hk : ∀ acc, ∃ r, k4 acc (nI (c + 1)) = some r ∧ k4' acc (nI (c + 1)) = some r) : ∀ q n j acc, j + q = N → q < n → ∃ r, f_X0_unequalPairs_16 b x k4 n acc (nI c) (nI j) = some r ∧ f_X5_unequal_18 m k4' n acc (nI c) (nI j) = some r := by
  have hN := hI.1
  have eN := hI.2.1
  intro q
  induction q with
  | zero =>
    intro n j acc hq hn
    cases n with
    | zero => omega
    | succ n =>
      have e : j = N := by omega
      subst e
      obtain ⟨r, r1, r2⟩ := hk acc
      refine ⟨r, ?_, ?_⟩
      · show (if x (b + 7) 0 ≤ nI j then _ else _) = _
        rw [sm_N hS, eN, if_pos (Int32.le_refl _), sb, nI_1, r1]
      · show (aget 442 (m 1) 0).bind _ = _
        rw [ag' (e := 0) (n := 442) 0 rfl (by decide), sb, eN, if_pos (Int32.le_refl _), sb, nI_1, r2]
  | succ q ih =>
    intro n j acc hq hn
    cases n with
    | zero => omega
    | succ n =>
      have hj : j < N := by omega
      have h49 : ∀ u, f_X0_unequalPairs_49 b x k4 (f_X0_unequalPairs_16 b x k4 n) u (nI c) (nI j) = f_X0_unequalPairs_16 b x k4 n u (nI c) (nI (j + 1)) := fun u => by
        unfold f_X0_unequalPairs_49
        rw [sb, nI_1]
      have h114 : ∀ u t, f_X5_unequal_114 m k4' (f_X5_unequal_18 m k4' n) (nI c) (nI j) t u = f_X5_unequal_18 m k4' n (u + t) (nI c) (nI (j + 1)) := fun u t => by
        unfold f_X5_unequal_114
        rw [sb, sb, nI_1]
      have h113 : ∀ u, f_X5_unequal_113 m k4' (f_X5_unequal_18 m k4' n) (nI c) (nI j) u = f_X5_unequal_18 m k4' n u (nI c) (nI (j + 1)) := fun u => by
        unfold f_X5_unequal_113
        rw [h114, Int32.add_zero]
      have h75 : ∀ u, f_X5_unequal_75 m k4' (f_X5_unequal_18 m k4' n) u (nI c) (nI j) = f_X5_unequal_18 m k4' n u (nI c) (nI (j + 1)) := fun u => by
        unfold f_X5_unequal_75 f_X5_unequal_76
        rw [if_pos rfl, h113]
      have hal : f_X0_areAlike b x (nI c) (nI j) = if m 1 (210 + 10 * c) = -1 then some 0 else (if m 1 (210 + 10 * c) = m 1 (210 + 10 * j) then some 1 else some 0) := by
        unfold f_X0_areAlike
        rw [f_folOf hS hN eN hc, sb, sb, f_folOf hS hN eN hj, sb]
      have hX : f_X0_unequalPairs_16 b x k4 (n + 1) acc (nI c) (nI j) = (f_X0_areAlike b x (nI c) (nI j)).bind fun v27 =>
          if v27 = 0 then f_X0_unequalPairs_16 b x k4 n acc (nI c) (nI (j + 1)) else (if m 1 (207 + 10 * c) = m 1 (207 + 10 * j) then f_X0_unequalPairs_16 b x k4 n acc (nI c) (nI (j + 1)) else f_X0_unequalPairs_16 b x k4 n (acc + 1) (nI c) (nI (j + 1))) := by
        show (if x (b + 7) 0 ≤ nI j then _ else _) = _
        rw [sm_N hS, eN, if_neg (nI_ge hj (by omega)), f_gotOf hS hN eN hc, sb, f_gotOf hS hN eN hj, sb, h49, sb, h49]
      have hM : f_X5_unequal_18 m k4' (n + 1) acc (nI c) (nI j) = if m 1 (210 + 10 * c) = -1 then f_X5_unequal_18 m k4' n acc (nI c) (nI (j + 1)) else (if m 1 (210 + 10 * c) = m 1 (210 + 10 * j) then (if m 1 (207 + 10 * c) = m 1 (207 + 10 * j) then f_X5_unequal_18 m k4' n acc (nI c) (nI (j + 1)) else f_X5_unequal_18 m k4' n (acc + 1) (nI c) (nI (j + 1))) else f_X5_unequal_18 m k4' n acc (nI c) (nI (j + 1))) := by
        show (aget 442 (m 1) 0).bind _ = _
        rw [ag' (e := 0) (n := 442) 0 rfl (by decide), sb, eN, if_neg (nI_ge hj (by omega)), f_of, sb, ag' (e := nI (202 + 10 * c) + 8) (n := 442) (210 + 10 * c) (nI_p _ 8 (by omega)) (by omega), sb, sb, ag' (e := nI (202 + 10 * c) + 8) (n := 442) (210 + 10 * c) (nI_p _ 8 (by omega)) (by omega), sb, f_of, sb, ag' (e := nI (202 + 10 * j) + 8) (n := 442) (210 + 10 * j) (nI_p _ 8 (by omega)) (by omega), sb, h75]
        unfold f_X5_unequal_76
        rw [if_neg (show ¬ (1 : Int32) = 0 by decide), f_of, sb, ag' (e := nI (202 + 10 * c) + 5) (n := 442) (207 + 10 * c) (nI_p _ 5 (by omega)) (by omega), sb, f_of, sb, ag' (e := nI (202 + 10 * j) + 5) (n := 442) (207 + 10 * j) (nI_p _ 5 (by omega)) (by omega), sb, h113, h114]
      rw [hX, hM, hal]
      obtain ⟨r, r1, r2⟩ := ih n (j + 1) acc (by omega) (by omega)
      obtain ⟨r', r1', r2'⟩ := ih n (j + 1) (acc + 1) (by omega) (by omega)
      by_cases q1 : m 1 (210 + 10 * c) = -1
      · rw [if_pos q1, if_pos q1, sb, if_pos rfl]
        exact ⟨r, r1, r2⟩
      · rw [if_neg q1, if_neg q1]
        by_cases q2 : m 1 (210 + 10 * c) = m 1 (210 + 10 * j)
        · rw [if_pos q2, if_pos q2, sb, if_neg (show ¬ (1 : Int32) = 0 by decide)]
          by_cases q3 : m 1 (207 + 10 * c) = m 1 (207 + 10 * j)
          · rw [if_pos q3, if_pos q3]
            exact ⟨r, r1, r2⟩
          · rw [if_neg q3, if_neg q3]
            exact ⟨r', r1', r2'⟩
        · rw [if_neg q2, if_neg q2, sb, if_pos rfl]
          exact ⟨r, r1, r2⟩
theorem f_uneq {b : Nat} {x m : XS} (hS : Sim b x (m 1)) {N P : Nat} (hI : InvNP (m 1) N P) : ∃ r, f_X0_unequalPairs b x = some r ∧ f_X5_unequal m = some r := by
  have hN := hI.1
  have eN := hI.2.1
  have key : ∀ q n c acc, c + q = N → q < n → ∃ r, f_X0_unequalPairs_4 b x n acc (nI c) = some r ∧ f_X5_unequal_4 m n acc (nI c) = some r := by
    intro q
    induction q with
    | zero =>
      intro n c acc hq hn
      cases n with
      | zero => omega
      | succ n =>
        have e : c = N := by omega
        subst e
        refine ⟨acc, ?_, ?_⟩
        · show (if x (b + 7) 0 ≤ nI c then _ else _) = _
          rw [sm_N hS, eN, if_pos (Int32.le_refl _)]
        · show (aget 442 (m 1) 0).bind _ = _
          rw [ag' (e := 0) (n := 442) 0 rfl (by decide), sb, eN, if_pos (Int32.le_refl _)]
    | succ q ih =>
      intro n c acc hq hn
      cases n with
      | zero => omega
      | succ n =>
        have hc : c < N := by omega
        obtain ⟨r, r1, r2⟩ := f_uneq_in hS hI hc (k4 := f_X0_unequalPairs_4 b x n) (k4' := f_X5_unequal_4 m n) (fun acc => ih n (c + 1) acc (by omega) (by omega)) q 4096 (c + 1) acc (by omega) (by omega)
        refine ⟨r, ?_, ?_⟩
        · show (if x (b + 7) 0 ≤ nI c then _ else _) = _
          rw [sm_N hS, eN, if_neg (nI_ge hc (by omega)), sb, nI_1, r1]
        · show (aget 442 (m 1) 0).bind _ = _
          rw [ag' (e := 0) (n := 442) 0 rfl (by decide), sb, eN, if_neg (nI_ge hc (by omega)), sb, nI_1, r2]
  exact key N 4096 0 0 (by omega) (by omega)
theorem op_18 : P_18 RI := by
  intro x m a0 h
  have hm2 : (ux m 0 6 0) 1 = m 1 := ux_ne (by decide)
  obtain ⟨⟨N, P, hI⟩, hF⟩ := h.2.1
  have hN := hI.1
  have eN := hI.2.1
  have hS2 : Sim 1 x ((ux m 0 6 0) 1) := by rw [hm2]; exact h.1
  have hI2 : InvNP ((ux m 0 6 0) 1) N P := by rw [hm2]; exact hI
  unfold f_X4_count t_X4_count f_X5_count
  simp -implicitDefEqProofs only [sb]
  rw [in_eq]
  rcases within_cases a0 0 11 (by decide) (by decide) with w1 | ⟨v, v1, v2, rfl, w1⟩
  · have w1 : f_X4_isWithin a0 0 11 = some 0 := w1
    rw [w1]
    exact Or.inr ⟨2, 1, 0, ux (ux m 0 6 0) 0 6 1, ⟨rfl, rfl⟩, rfl, rfl, ux_at, (h.thr 0).thr 1⟩
  have w1 : f_X4_isWithin (nI v) 0 11 = some 1 := w1
  rw [w1, sb, sb, sb, show f_X4_requireArgument 1 = some () from rfl, sb, if_neg (show ¬ (1 : Int32) = 0 by decide)]
  left
  have hst : ∀ w : Int32, ∃ r, f_X0_inStage 1 x w = some r ∧ f_X5_staged (ux m 0 6 0) w = some r := fun w => f_staged hS2 hN hI2.2.1 w N 4096 0 0 (by omega) (by omega)
  rcases (show v = 0 ∨ v = 1 ∨ v = 2 ∨ v = 3 ∨ v = 4 ∨ v = 5 ∨ v = 6 ∨ v = 7 ∨ v = 8 ∨ v = 9 ∨ v = 10 ∨ v = 11 by omega) with rfl | rfl | rfl | rfl | rfl | rfl | rfl | rfl | rfl | rfl | rfl | rfl
  · skip
    have hm : f_X5_counted (ux m 0 6 0) (nI 0) = some (m 1 0) := by
      unfold f_X5_counted f_X5_counted_17
      rw [if_pos (show nI 0 ≤ (0 : Int32) by decide), if_pos (show nI 0 = (0 : Int32) from rfl), ag' (e := 0) (n := 442) 0 rfl (by decide), sb, hm2]
    rw [if_pos (show nI 0 = (0 : Int32) from rfl), hm, sm_N h.1]
    exact ⟨_, x, ux m 0 6 0, rfl, rfl, ux_at, h.thr 0⟩
  · obtain ⟨r, r1, r2⟩ := hst 0
    have hm : f_X5_counted (ux m 0 6 0) (nI 1) = some r := by
      unfold f_X5_counted
      rw [if_neg (show ¬ nI 1 ≤ (0 : Int32) by decide), if_neg (show ¬ (5 : Int32) ≤ nI 1 by decide), show nI 1 - 1 = (0 : Int32) from rfl, r2, sb]
    rw [if_neg (show ¬ nI 1 = (0 : Int32) by decide), if_pos (show nI 1 = (1 : Int32) from rfl), hm, r1]
    exact ⟨_, x, ux m 0 6 0, rfl, rfl, ux_at, h.thr 0⟩
  · obtain ⟨r, r1, r2⟩ := hst 1
    have hm : f_X5_counted (ux m 0 6 0) (nI 2) = some r := by
      unfold f_X5_counted
      rw [if_neg (show ¬ nI 2 ≤ (0 : Int32) by decide), if_neg (show ¬ (5 : Int32) ≤ nI 2 by decide), show nI 2 - 1 = (1 : Int32) from rfl, r2, sb]
    rw [if_neg (show ¬ nI 2 = (0 : Int32) by decide), if_neg (show ¬ nI 2 = (1 : Int32) by decide), if_pos (show nI 2 = (2 : Int32) from rfl), hm, r1]
    exact ⟨_, x, ux m 0 6 0, rfl, rfl, ux_at, h.thr 0⟩
  · obtain ⟨r, r1, r2⟩ := hst 2
    have hm : f_X5_counted (ux m 0 6 0) (nI 3) = some r := by
      unfold f_X5_counted
      rw [if_neg (show ¬ nI 3 ≤ (0 : Int32) by decide), if_neg (show ¬ (5 : Int32) ≤ nI 3 by decide), show nI 3 - 1 = (2 : Int32) from rfl, r2, sb]
    rw [if_neg (show ¬ nI 3 = (0 : Int32) by decide), if_neg (show ¬ nI 3 = (1 : Int32) by decide), if_neg (show ¬ nI 3 = (2 : Int32) by decide), if_pos (show nI 3 = (3 : Int32) from rfl), hm, r1]
    exact ⟨_, x, ux m 0 6 0, rfl, rfl, ux_at, h.thr 0⟩
  · obtain ⟨r, r1, r2⟩ := hst 3
    have hm : f_X5_counted (ux m 0 6 0) (nI 4) = some r := by
      unfold f_X5_counted
      rw [if_neg (show ¬ nI 4 ≤ (0 : Int32) by decide), if_neg (show ¬ (5 : Int32) ≤ nI 4 by decide), show nI 4 - 1 = (3 : Int32) from rfl, r2, sb]
    rw [if_neg (show ¬ nI 4 = (0 : Int32) by decide), if_neg (show ¬ nI 4 = (1 : Int32) by decide), if_neg (show ¬ nI 4 = (2 : Int32) by decide), if_neg (show ¬ nI 4 = (3 : Int32) by decide), if_pos (show nI 4 = (4 : Int32) from rfl), hm, r1]
    exact ⟨_, x, ux m 0 6 0, rfl, rfl, ux_at, h.thr 0⟩
  · skip
    have hm : f_X5_counted (ux m 0 6 0) (nI 5) = some (m 1 1) := by
      unfold f_X5_counted f_X5_counted_17
      rw [if_neg (show ¬ nI 5 ≤ (0 : Int32) by decide), if_pos (show (5 : Int32) ≤ nI 5 by decide), if_neg (show ¬ nI 5 = (0 : Int32) by decide), if_neg (show ¬ nI 5 = (1 : Int32) by decide), if_neg (show ¬ nI 5 = (2 : Int32) by decide), if_neg (show ¬ nI 5 = (3 : Int32) by decide), if_neg (show ¬ nI 5 = (4 : Int32) by decide), if_pos (show nI 5 = (5 : Int32) from rfl), ag' (e := 1) (n := 442) 1 rfl (by decide), sb, hm2]
    rw [if_neg (show ¬ nI 5 = (0 : Int32) by decide), if_neg (show ¬ nI 5 = (1 : Int32) by decide), if_neg (show ¬ nI 5 = (2 : Int32) by decide), if_neg (show ¬ nI 5 = (3 : Int32) by decide), if_neg (show ¬ nI 5 = (4 : Int32) by decide), if_pos (show nI 5 = (5 : Int32) from rfl), hm, sm_month h.1]
    exact ⟨_, x, ux m 0 6 0, rfl, rfl, ux_at, h.thr 0⟩
  · skip
    have hm : f_X5_counted (ux m 0 6 0) (nI 6) = some (sf (fun i => (ux m 0 6 0) 1 (207 + 10 * i)) N 0) := by
      unfold f_X5_counted f_X5_counted_17
      rw [if_neg (show ¬ nI 6 ≤ (0 : Int32) by decide), if_pos (show (5 : Int32) ≤ nI 6 by decide), if_neg (show ¬ nI 6 = (0 : Int32) by decide), if_neg (show ¬ nI 6 = (1 : Int32) by decide), if_neg (show ¬ nI 6 = (2 : Int32) by decide), if_neg (show ¬ nI 6 = (3 : Int32) by decide), if_neg (show ¬ nI 6 = (4 : Int32) by decide), if_neg (show ¬ nI 6 = (5 : Int32) by decide), if_pos (show nI 6 = (6 : Int32) from rfl), (m_all hS2 hI2).1, sb]
    rw [if_neg (show ¬ nI 6 = (0 : Int32) by decide), if_neg (show ¬ nI 6 = (1 : Int32) by decide), if_neg (show ¬ nI 6 = (2 : Int32) by decide), if_neg (show ¬ nI 6 = (3 : Int32) by decide), if_neg (show ¬ nI 6 = (4 : Int32) by decide), if_neg (show ¬ nI 6 = (5 : Int32) by decide), if_pos (show nI 6 = (6 : Int32) from rfl), hm, x_gotAll hS2 hI2]
    exact ⟨_, x, ux m 0 6 0, rfl, rfl, ux_at, h.thr 0⟩
  · skip
    have hm : f_X5_counted (ux m 0 6 0) (nI 7) = some (sf (fun i => if ow (ux m 0 6 0) i ≤ 0 then 0 else 1) N 0) := by
      unfold f_X5_counted f_X5_counted_17
      rw [if_neg (show ¬ nI 7 ≤ (0 : Int32) by decide), if_pos (show (5 : Int32) ≤ nI 7 by decide), if_neg (show ¬ nI 7 = (0 : Int32) by decide), if_neg (show ¬ nI 7 = (1 : Int32) by decide), if_neg (show ¬ nI 7 = (2 : Int32) by decide), if_neg (show ¬ nI 7 = (3 : Int32) by decide), if_neg (show ¬ nI 7 = (4 : Int32) by decide), if_neg (show ¬ nI 7 = (5 : Int32) by decide), if_neg (show ¬ nI 7 = (6 : Int32) by decide), if_pos (show nI 7 = (7 : Int32) from rfl), (m_all hS2 hI2).2.2, sb]
    rw [if_neg (show ¬ nI 7 = (0 : Int32) by decide), if_neg (show ¬ nI 7 = (1 : Int32) by decide), if_neg (show ¬ nI 7 = (2 : Int32) by decide), if_neg (show ¬ nI 7 = (3 : Int32) by decide), if_neg (show ¬ nI 7 = (4 : Int32) by decide), if_neg (show ¬ nI 7 = (5 : Int32) by decide), if_neg (show ¬ nI 7 = (6 : Int32) by decide), if_pos (show nI 7 = (7 : Int32) from rfl), hm, x_wait hS2 hI2]
    exact ⟨_, x, ux m 0 6 0, rfl, rfl, ux_at, h.thr 0⟩
  · skip
    have hm : f_X5_counted (ux m 0 6 0) (nI 8) = some (sf (fun i => if (ux m 0 6 0) 1 (211 + 10 * i) = 3 then 1 else 0) N 0) := by
      unfold f_X5_counted f_X5_counted_17
      rw [if_neg (show ¬ nI 8 ≤ (0 : Int32) by decide), if_pos (show (5 : Int32) ≤ nI 8 by decide), if_neg (show ¬ nI 8 = (0 : Int32) by decide), if_neg (show ¬ nI 8 = (1 : Int32) by decide), if_neg (show ¬ nI 8 = (2 : Int32) by decide), if_neg (show ¬ nI 8 = (3 : Int32) by decide), if_neg (show ¬ nI 8 = (4 : Int32) by decide), if_neg (show ¬ nI 8 = (5 : Int32) by decide), if_neg (show ¬ nI 8 = (6 : Int32) by decide), if_neg (show ¬ nI 8 = (7 : Int32) by decide), if_pos (show nI 8 = (8 : Int32) from rfl), m_dep hI2, sb]
    rw [if_neg (show ¬ nI 8 = (0 : Int32) by decide), if_neg (show ¬ nI 8 = (1 : Int32) by decide), if_neg (show ¬ nI 8 = (2 : Int32) by decide), if_neg (show ¬ nI 8 = (3 : Int32) by decide), if_neg (show ¬ nI 8 = (4 : Int32) by decide), if_neg (show ¬ nI 8 = (5 : Int32) by decide), if_neg (show ¬ nI 8 = (6 : Int32) by decide), if_neg (show ¬ nI 8 = (7 : Int32) by decide), if_pos (show nI 8 = (8 : Int32) from rfl), hm, x_dep hS2 hI2]
    exact ⟨_, x, ux m 0 6 0, rfl, rfl, ux_at, h.thr 0⟩
  · skip
    have hm : f_X5_counted (ux m 0 6 0) (nI 9) = some (m 1 5) := by
      unfold f_X5_counted f_X5_counted_17
      rw [if_neg (show ¬ nI 9 ≤ (0 : Int32) by decide), if_pos (show (5 : Int32) ≤ nI 9 by decide), if_neg (show ¬ nI 9 = (0 : Int32) by decide), if_neg (show ¬ nI 9 = (1 : Int32) by decide), if_neg (show ¬ nI 9 = (2 : Int32) by decide), if_neg (show ¬ nI 9 = (3 : Int32) by decide), if_neg (show ¬ nI 9 = (4 : Int32) by decide), if_neg (show ¬ nI 9 = (5 : Int32) by decide), if_neg (show ¬ nI 9 = (6 : Int32) by decide), if_neg (show ¬ nI 9 = (7 : Int32) by decide), if_neg (show ¬ nI 9 = (8 : Int32) by decide), if_pos (show nI 9 = (9 : Int32) from rfl), ag' (e := 5) (n := 442) 5 rfl (by decide), sb, hm2]
    rw [if_neg (show ¬ nI 9 = (0 : Int32) by decide), if_neg (show ¬ nI 9 = (1 : Int32) by decide), if_neg (show ¬ nI 9 = (2 : Int32) by decide), if_neg (show ¬ nI 9 = (3 : Int32) by decide), if_neg (show ¬ nI 9 = (4 : Int32) by decide), if_neg (show ¬ nI 9 = (5 : Int32) by decide), if_neg (show ¬ nI 9 = (6 : Int32) by decide), if_neg (show ¬ nI 9 = (7 : Int32) by decide), if_neg (show ¬ nI 9 = (8 : Int32) by decide), if_pos (show nI 9 = (9 : Int32) from rfl), hm, sm_P h.1]
    exact ⟨_, x, ux m 0 6 0, rfl, rfl, ux_at, h.thr 0⟩
  · obtain ⟨r, r1, r2⟩ := f_uneq hS2 hI2
    have hm : f_X5_counted (ux m 0 6 0) (nI 10) = some (r) := by
      unfold f_X5_counted f_X5_counted_17
      rw [if_neg (show ¬ nI 10 ≤ (0 : Int32) by decide), if_pos (show (5 : Int32) ≤ nI 10 by decide), if_neg (show ¬ nI 10 = (0 : Int32) by decide), if_neg (show ¬ nI 10 = (1 : Int32) by decide), if_neg (show ¬ nI 10 = (2 : Int32) by decide), if_neg (show ¬ nI 10 = (3 : Int32) by decide), if_neg (show ¬ nI 10 = (4 : Int32) by decide), if_neg (show ¬ nI 10 = (5 : Int32) by decide), if_neg (show ¬ nI 10 = (6 : Int32) by decide), if_neg (show ¬ nI 10 = (7 : Int32) by decide), if_neg (show ¬ nI 10 = (8 : Int32) by decide), if_neg (show ¬ nI 10 = (9 : Int32) by decide), if_pos (show nI 10 = (10 : Int32) from rfl), r2, sb]
    rw [if_neg (show ¬ nI 10 = (0 : Int32) by decide), if_neg (show ¬ nI 10 = (1 : Int32) by decide), if_neg (show ¬ nI 10 = (2 : Int32) by decide), if_neg (show ¬ nI 10 = (3 : Int32) by decide), if_neg (show ¬ nI 10 = (4 : Int32) by decide), if_neg (show ¬ nI 10 = (5 : Int32) by decide), if_neg (show ¬ nI 10 = (6 : Int32) by decide), if_neg (show ¬ nI 10 = (7 : Int32) by decide), if_neg (show ¬ nI 10 = (8 : Int32) by decide), if_neg (show ¬ nI 10 = (9 : Int32) by decide), if_pos (show nI 10 = (10 : Int32) from rfl), hm, r1]
    exact ⟨_, x, ux m 0 6 0, rfl, rfl, ux_at, h.thr 0⟩
  · obtain ⟨c, s, -, -, c1, -, c2, -⟩ := h.2.2.1
    have hm : f_X5_counted (ux m 0 6 0) (nI 11) = some (nI c) := by
      unfold f_X5_counted f_X5_counted_17
      rw [if_neg (show ¬ nI 11 ≤ (0 : Int32) by decide), if_pos (show (5 : Int32) ≤ nI 11 by decide), if_neg (show ¬ nI 11 = (0 : Int32) by decide), if_neg (show ¬ nI 11 = (1 : Int32) by decide), if_neg (show ¬ nI 11 = (2 : Int32) by decide), if_neg (show ¬ nI 11 = (3 : Int32) by decide), if_neg (show ¬ nI 11 = (4 : Int32) by decide), if_neg (show ¬ nI 11 = (5 : Int32) by decide), if_neg (show ¬ nI 11 = (6 : Int32) by decide), if_neg (show ¬ nI 11 = (7 : Int32) by decide), if_neg (show ¬ nI 11 = (8 : Int32) by decide), if_neg (show ¬ nI 11 = (9 : Int32) by decide), if_neg (show ¬ nI 11 = (10 : Int32) by decide)]
      unfold f_X5_counted_123
      rw [ux_j (by decide), c2]
    rw [if_neg (show ¬ nI 11 = (0 : Int32) by decide), if_neg (show ¬ nI 11 = (1 : Int32) by decide), if_neg (show ¬ nI 11 = (2 : Int32) by decide), if_neg (show ¬ nI 11 = (3 : Int32) by decide), if_neg (show ¬ nI 11 = (4 : Int32) by decide), if_neg (show ¬ nI 11 = (5 : Int32) by decide), if_neg (show ¬ nI 11 = (6 : Int32) by decide), if_neg (show ¬ nI 11 = (7 : Int32) by decide), if_neg (show ¬ nI 11 = (8 : Int32) by decide), if_neg (show ¬ nI 11 = (9 : Int32) by decide), if_neg (show ¬ nI 11 = (10 : Int32) by decide), hm, c1]
    exact ⟨_, x, ux m 0 6 0, rfl, rfl, ux_at, h.thr 0⟩

