/-! ===== customers, why not, the fair amends ===== -/
theorem m_cus_after {m : XS} {N P : Nat} (hI : InvNP (m 1) N P) (l1 : Int32) {w : Nat} : ∀ q n i cc (l4 : Int32), w < cc → cc + q ≤ 100 → i + q = N → q < n → f_X5_customerAt_8 m n l1 (nI w) (nI cc) l4 (nI i) = some l4 := by
  have hN := hI.1
  have eN := hI.2.1
  intro q
  induction q with
  | zero =>
    intro n i cc l4 hw hcc hq hn
    cases n with
    | zero => omega
    | succ n =>
      have e : i = N := by omega
      subst e
      show (aget 442 (m 1) 0).bind _ = _
      rw [ag' (e := 0) (n := 442) 0 rfl (by decide), sb, eN, if_pos (Int32.le_refl _)]
  | succ q ih =>
    intro n i cc l4 hw hcc hq hn
    cases n with
    | zero => omega
    | succ n =>
      have hi : i < N := by omega
      show (aget 442 (m 1) 0).bind _ = _
      rw [ag' (e := 0) (n := 442) 0 rfl (by decide), sb, eN, if_neg (nI_ge hi (by omega)), f_of, sb, ag' (e := nI (202 + 10 * i) + 2) (n := 442) (204 + 10 * i) (nI_p _ 2 (by omega)) (by omega), sb]
      have h72 : ∀ t u, f_X5_customerAt_72 m (f_X5_customerAt_8 m n) l1 (nI w) u (nI i) t (nI cc) = f_X5_customerAt_8 m n l1 (nI w) (nI cc + t) u (nI (i + 1)) := fun t u => by
        unfold f_X5_customerAt_72
        rw [sb, sb, nI_1]
      unfold f_X5_customerAt_40 f_X5_customerAt_57 f_X5_customerAt_59
      rw [if_neg (show ¬ (1 : Int32) = 0 by decide), if_neg (show ¬ nI cc = nI w from fun e => absurd ((nI_eq (by omega) (by omega)).mp e) (by omega)), if_neg (show ¬ (1 : Int32) = 0 by decide), if_pos (show (0 : Int32) = 0 from rfl), if_pos (show (0 : Int32) = 0 from rfl), h72, h72, nI_1, Int32.add_zero, ih n (i + 1) (cc + 1) l4 (by omega) (by omega) (by omega) (by omega), ih n (i + 1) cc l4 (by omega) (by omega) (by omega) (by omega)]
      exact ite_self _
theorem f_cus {b : Nat} {x m : XS} (hS : Sim b x (m 1)) {N P : Nat} (hI : InvNP (m 1) N P) (l1 : Int32) {w : Nat} (hw : w ≤ 23) : ∀ q n i cc, cc ≤ w → i + q = N → q < n → ∃ r, f_X0_ofOne_5 b x n l1 (nI w) (nI cc) (nI i) = some r ∧ f_X5_customerAt_8 m n l1 (nI w) (nI cc) (-1) (nI i) = some r := by
  have hN := hI.1
  have eN := hI.2.1
  intro q
  induction q with
  | zero =>
    intro n i cc hcc hq hn
    cases n with
    | zero => omega
    | succ n =>
      have e : i = N := by omega
      subst e
      refine ⟨-1, ?_, ?_⟩
      · show (if x (b + 7) 0 ≤ nI i then _ else _) = _
        rw [sm_N hS, eN, if_pos (Int32.le_refl _)]
      · show (aget 442 (m 1) 0).bind _ = _
        rw [ag' (e := 0) (n := 442) 0 rfl (by decide), sb, eN, if_pos (Int32.le_refl _)]
  | succ q ih =>
    intro n i cc hcc hq hn
    cases n with
    | zero => omega
    | succ n =>
      have hi : i < N := by omega
      have h72 : ∀ t u, f_X5_customerAt_72 m (f_X5_customerAt_8 m n) l1 (nI w) u (nI i) t (nI cc) = f_X5_customerAt_8 m n l1 (nI w) (nI cc + t) u (nI (i + 1)) := fun t u => by
        unfold f_X5_customerAt_72
        rw [sb, sb, nI_1]
      have h35 : ∀ u, f_X0_ofOne_35 b x (f_X0_ofOne_5 b x n) l1 (nI w) u (nI i) = f_X0_ofOne_5 b x n l1 (nI w) u (nI (i + 1)) := fun u => by
        unfold f_X0_ofOne_35
        rw [sb, nI_1]
      have hX : f_X0_ofOne_5 b x (n + 1) l1 (nI w) (nI cc) (nI i) = if m 1 (204 + 10 * i) = l1 then (if nI cc = nI w then some (nI i) else f_X0_ofOne_5 b x n l1 (nI w) (nI (cc + 1)) (nI (i + 1))) else f_X0_ofOne_5 b x n l1 (nI w) (nI cc) (nI (i + 1)) := by
        show (if x (b + 7) 0 ≤ nI i then _ else _) = _
        rw [sm_N hS, eN, if_neg (nI_ge hi (by omega)), f_cusC hS hN eN hi, sb, sb, h35, h35, nI_1]
      have hM : f_X5_customerAt_8 m (n + 1) l1 (nI w) (nI cc) (-1) (nI i) = if m 1 (204 + 10 * i) = l1 then (if nI cc = nI w then f_X5_customerAt_8 m n l1 (nI w) (nI (cc + 1)) (nI i) (nI (i + 1)) else f_X5_customerAt_8 m n l1 (nI w) (nI (cc + 1)) (-1) (nI (i + 1))) else f_X5_customerAt_8 m n l1 (nI w) (nI cc) (-1) (nI (i + 1)) := by
        show (aget 442 (m 1) 0).bind _ = _
        rw [ag' (e := 0) (n := 442) 0 rfl (by decide), sb, eN, if_neg (nI_ge hi (by omega)), f_of, sb, ag' (e := nI (202 + 10 * i) + 2) (n := 442) (204 + 10 * i) (nI_p _ 2 (by omega)) (by omega), sb]
        unfold f_X5_customerAt_40 f_X5_customerAt_57 f_X5_customerAt_59
        rw [if_neg (show ¬ (1 : Int32) = 0 by decide), if_neg (show ¬ (1 : Int32) = 0 by decide), if_neg (show ¬ (1 : Int32) = 0 by decide), if_pos (show (0 : Int32) = 0 from rfl), if_pos (show (0 : Int32) = 0 from rfl), h72, h72, h72, nI_1, Int32.add_zero]
      rw [hX, hM]
      by_cases q1 : m 1 (204 + 10 * i) = l1
      · rw [if_pos q1, if_pos q1]
        by_cases q2 : cc = w
        · subst q2
          rw [if_pos rfl, if_pos rfl]
          exact ⟨nI i, rfl, m_cus_after hI l1 q n (i + 1) (cc + 1) (nI i) (by omega) (by omega) (by omega) (by omega)⟩
        · have q3 : ¬ nI cc = nI w := fun e => q2 ((nI_eq (by omega) (by omega)).mp e)
          rw [if_neg q3, if_neg q3]
          exact ih n (i + 1) (cc + 1) (by omega) (by omega) (by omega)
      · rw [if_neg q1, if_neg q1]
        exact ih n (i + 1) cc hcc (by omega) (by omega)
theorem op_20 : P_20 RI := by
  intro x m a0 a1 h
  have hm2 : (ux m 0 6 0) 1 = m 1 := ux_ne (by decide)
  obtain ⟨⟨N, P, hI⟩, hF⟩ := h.2.1
  have hN := hI.1
  have hS2 : Sim 1 x ((ux m 0 6 0) 1) := by rw [hm2]; exact h.1
  have hI2 : InvNP ((ux m 0 6 0) 1) N P := by rw [hm2]; exact hI
  unfold f_X4_ofCustomer t_X4_ofCustomer f_X5_ofCustomer
  simp -implicitDefEqProofs only [sb]
  obtain ⟨c1, c2⟩ := cust_cases a0
  rw [← c1]
  rcases c2 with w2 | w2
  · rw [w2]
    exact Or.inr ⟨1, 1, 0, ux (ux m 0 6 0) 0 6 1, Or.inl ⟨rfl, rfl⟩, rfl, rfl, ux_at, (h.thr 0).thr 1⟩
  rw [w2, sb, sb, sb, show f_X4_requireIndex 1 = some () from rfl, sb, if_neg (show ¬ (1 : Int32) = 0 by decide), if_neg (show ¬ (1 : Int32) = 0 by decide), in_eq]
  rcases within_cases a1 0 23 (by decide) (by decide) with w1 | ⟨v, v1, v2, rfl, w1⟩
  · have w1 : f_X4_isWithin a1 0 23 = some 0 := w1
    rw [w1]
    exact Or.inr ⟨2, 2, 0, ux (ux m 0 6 0) 0 6 2, Or.inr ⟨rfl, rfl⟩, rfl, rfl, ux_at, (h.thr 0).thr 2⟩
  have w1 : f_X4_isWithin (nI v) 0 23 = some 1 := w1
  rw [w1, sb, sb, sb, show f_X4_requireArgument 1 = some () from rfl, sb, if_neg (show ¬ (1 : Int32) = 0 by decide)]
  left
  obtain ⟨r, r1, r2⟩ := f_cus hS2 hI2 a0 v2 N 4096 0 0 (by omega) (by omega) (by omega)
  have r1 : f_X0_ofOne 1 x a0 (nI v) = some r := r1
  have r2 : f_X5_customerAt (ux m 0 6 0) a0 (nI v) = some r := r2
  rw [r1, r2]
  exact ⟨r, x, ux m 0 6 0, rfl, rfl, ux_at, h.thr 0⟩
theorem op_21 : P_21 RI := by
  intro x m a0 a1 a2 h
  have hm2 : (ux m 0 6 0) 1 = m 1 := ux_ne (by decide)
  obtain ⟨⟨N, P, hI⟩, hF⟩ := h.2.1
  have hN := hI.1
  have eN := hI.2.1
  have hS2 : Sim 1 x ((ux m 0 6 0) 1) := by rw [hm2]; exact h.1
  have hI2 : InvNP ((ux m 0 6 0) 1) N P := by rw [hm2]; exact hI
  unfold f_X4_whyNot t_X4_whyNot f_X5_whyNot
  simp -implicitDefEqProofs only [sb]
  rcases f_isC (m := ux m 0 6 0) hN (by rw [hm2]; exact eN) a0 with ⟨e, w⟩ | ⟨c, hc, rfl, e⟩
  · rw [(f_hasC h.1 hN eN a0).1 w, e]
    exact Or.inr ⟨1, 1, 0, ux (ux m 0 6 0) 0 6 1, Or.inl ⟨rfl, rfl⟩, rfl, rfl, ux_at, (h.thr 0).thr 1⟩
  rw [(f_hasC h.1 hN eN (nI c)).2 c hc rfl, e, sb, sb, sb, show f_X4_requireIndex 1 = some () from rfl, sb, if_neg (show ¬ (1 : Int32) = 0 by decide), if_neg (show ¬ (1 : Int32) = 0 by decide), in_eq]
  unfold f_X5_why
  by_cases q : a2 = -1
  · subst q
    obtain ⟨r, r1, r2, -⟩ := judge_eq hS2 hI2 hc a1
    left
    rw [show f_X4_isWithin (-1) (-1) 5 = some 1 from by decide +kernel, sb, if_neg (show ¬ (1 : Int32) = 0 by decide), if_pos (show (-1 : Int32) = -1 from rfl), if_pos (show (-1 : Int32) = -1 from rfl), r2]
    unfold f_X4_whyNot_28 f_X4_whyNot_33
    rw [show f_X4_requireArgument 1 = some () from rfl, sb, if_pos (show (-1 : Int32) = -1 from rfl), r1]
    exact ⟨r, x, ux m 0 6 0, rfl, rfl, ux_at, h.thr 0⟩
  · rw [if_neg q, if_neg q, if_neg q]
    have hw : f_X4_isWithin a2 (-1) 5 = f_X4_isWithin a2 0 5 := by
      unfold f_X4_isWithin
      by_cases l : a2 < 0
      · have l2 : a2 < -1 := by
          rw [Int32.lt_iff_toInt_lt] at l ⊢
          have n1 : a2.toInt ≠ -1 := fun w => q (Int32.toInt_inj.mp (w.trans (show (-1 : Int) = (-1 : Int32).toInt by decide)))
          have z0 : (0 : Int32).toInt = 0 := by decide
          have z1 : (-1 : Int32).toInt = -1 := by decide
          omega
        rw [if_pos l, if_pos l2]
      · have l2 : ¬ a2 < -1 := fun w => l (Int32.lt_trans w (by decide))
        rw [if_neg l, if_neg l2]
    rw [hw]
    rcases wi_01 a2 0 5 with w1 | w1
    · rw [w1]
      exact Or.inr ⟨2, 2, 0, ux (ux m 0 6 0) 0 6 2, Or.inr ⟨rfl, rfl⟩, rfl, rfl, ux_at, (h.thr 0).thr 2⟩
    · obtain ⟨r, r1, r2, -⟩ := why_eq hS2 hI2 hc a1 a2
      left
      rw [w1, sb, sb, if_neg (show ¬ (1 : Int32) = 0 by decide), if_neg (show ¬ (1 : Int32) = 0 by decide), r2]
      unfold f_X4_whyNot_28 f_X4_whyNot_33
      rw [show f_X4_requireArgument 1 = some () from rfl, sb, if_neg q, r1]
      exact ⟨r, x, ux m 0 6 0, rfl, rfl, ux_at, h.thr 0⟩
theorem f_fair {x m : XS} (hS : Sim 1 x (m 1)) {N P c k s : Nat} (hI : InvNP (m 1) N P) (hc : c < N) (hk4 : k < 4) (hs : s ≤ 6) (es : m 1 (9 + 28 * k) = nI s) : ∀ q n j (l3 : Int32), (l3 = -1 ∨ ∃ d, d < s ∧ l3 = nI d) → j + q = s → q < n → ∃ r, f_X4_fair_31 x n (nI c) (nI k) l3 (nI j) = some r ∧ f_X5_fairOf_15 m n (nI c) (nI k) l3 (nI j) = some r := by
  have hN := hI.1
  have eN := hI.2.1
  intro q
  induction q with
  | zero =>
    intro n j l3 hl hq hn
    cases n with
    | zero => omega
    | succ n =>
      have e : j = s := by omega
      subst e
      refine ⟨l3, ?_, ?_⟩
      · show (f_X1_sizeOf 1 x (nI k)).bind _ = _
        rw [f_size hS hk4 es, sb, if_pos (Int32.le_refl _)]
      · show (f_X5_at (nI k)).bind _ = _
        rw [f_at, sb, ag' (e := nI (6 + 28 * k) + 3) (n := 442) (9 + 28 * k) (nI_p _ 3 (by omega)) (by omega), sb, es, if_pos (Int32.le_refl _)]
  | succ q ih =>
    intro n j l3 hl hq hn
    cases n with
    | zero => omega
    | succ n =>
      have hj : j < s := by omega
      have hA : hasA (m 1) k j := ⟨s, hs, es, hj⟩
      obtain ⟨v, v1, v2, -⟩ := why_eq hS hI hc (nI j) 0
      have h109 : ∀ u, f_X4_fair_109 x (f_X4_fair_31 x n) (nI c) (nI k) u (nI j) = f_X4_fair_31 x n (nI c) (nI k) u (nI (j + 1)) := fun u => by
        unfold f_X4_fair_109
        rw [sb, nI_1]
      have h80 : f_X4_fair_80 x (f_X4_fair_31 x n) (nI c) (nI k) l3 (nI j) = if v = 0 then f_X4_fair_31 x n (nI c) (nI k) (nI j) (nI (j + 1)) else f_X4_fair_31 x n (nI c) (nI k) l3 (nI (j + 1)) := by
        unfold f_X4_fair_80 f_X4_fair_85
        rw [if_neg (show ¬ (1 : Int32) = 0 by decide), v1, sb, h109, h109]
      have h850 : f_X4_fair_85 x (f_X4_fair_31 x n) (nI c) (nI k) l3 (nI j) 0 = f_X4_fair_31 x n (nI c) (nI k) l3 (nI (j + 1)) := by
        unfold f_X4_fair_85
        rw [if_pos rfl, h109]
      have h81 : ∀ u, f_X5_fairOf_81 m (f_X5_fairOf_15 m n) (nI c) (nI k) (nI j) u = f_X5_fairOf_15 m n (nI c) (nI k) u (nI (j + 1)) := fun u => by
        unfold f_X5_fairOf_81
        rw [sb, nI_1]
      have h80' : f_X5_fairOf_80 m (f_X5_fairOf_15 m n) (nI c) (nI k) l3 (nI j) = f_X5_fairOf_15 m n (nI c) (nI k) l3 (nI (j + 1)) := by
        unfold f_X5_fairOf_80
        rw [h81]
      have h75' : f_X5_fairOf_75 m (f_X5_fairOf_15 m n) (nI c) (nI k) (nI j) = f_X5_fairOf_15 m n (nI c) (nI k) (nI j) (nI (j + 1)) := by
        unfold f_X5_fairOf_75
        rw [h81]
      obtain ⟨r, r1, r2⟩ := ih n (j + 1) l3 hl (by omega) (by omega)
      obtain ⟨r', r1', r2'⟩ := ih n (j + 1) (nI j) (Or.inr ⟨j, hj, rfl⟩) (by omega) (by omega)
      have hX : f_X4_fair_31 x (n + 1) (nI c) (nI k) l3 (nI j) = if l3 = -1 then f_X4_fair_80 x (f_X4_fair_31 x n) (nI c) (nI k) l3 (nI j) else ((f_X1_costOf 1 x (nI k) (nI j)).bind fun v62 =>
        (f_X1_costOf 1 x (nI k) l3).bind fun v74 =>
        if (v74 ≤ v62 : Prop) then
          f_X4_fair_85 x (f_X4_fair_31 x n) (nI c) (nI k) l3 (nI j) 0
        else
          f_X4_fair_80 x (f_X4_fair_31 x n) (nI c) (nI k) l3 (nI j)) := by
        show (f_X1_sizeOf 1 x (nI k)).bind _ = _
        rw [f_size hS hk4 es, sb, if_neg (nI_ge hj (by omega))]
      have hM : f_X5_fairOf_15 m (n + 1) (nI c) (nI k) l3 (nI j) = if v = 0 then f_X5_fairOf_47 m (f_X5_fairOf_15 m n) (nI c) (nI k) l3 (nI j) 1 else f_X5_fairOf_47 m (f_X5_fairOf_15 m n) (nI c) (nI k) l3 (nI j) 0 := by
        show (f_X5_at (nI k)).bind _ = _
        rw [f_at, sb, ag' (e := nI (6 + 28 * k) + 3) (n := 442) (9 + 28 * k) (nI_p _ 3 (by omega)) (by omega), sb, es, if_neg (nI_ge hj (by omega)), v2, sb]
      rw [hX, hM]
      unfold f_X5_fairOf_47
      rw [if_neg (show ¬ (1 : Int32) = 0 by decide), if_pos (show (0 : Int32) = 0 from rfl), h80', h75', h80, h850]
      rcases hl with rfl | ⟨d, hd, rfl⟩
      · rw [if_pos (show (-1 : Int32) = -1 from rfl), if_pos (show (-1 : Int32) = -1 from rfl)]
        by_cases v0 : v = 0
        · rw [if_pos v0, if_pos v0]
          exact ⟨r', r1', r2'⟩
        · rw [if_neg v0, if_neg v0]
          exact ⟨r, r1, r2⟩
      · have hD : hasA (m 1) k d := ⟨s, hs, es, hd⟩
        have nd : ¬ nI d = -1 := fun w => nI_pos (n := d) (by omega) (by rw [w]; decide)
        rw [if_neg nd, if_neg nd, f_costX hS hk4 hA, sb, f_costX hS hk4 hD, sb, f_cost5 hk4 (by omega), sb, f_cost5 hk4 (by omega), sb]
        by_cases cc : m 1 (10 + 28 * k + 4 * d) ≤ m 1 (10 + 28 * k + 4 * j)
        · rw [if_pos cc, if_pos cc, ite_self]
          exact ⟨r, r1, r2⟩
        · rw [if_neg cc, if_neg cc]
          by_cases v0 : v = 0
          · rw [if_pos v0, if_pos v0]
            exact ⟨r', r1', r2'⟩
          · rw [if_neg v0, if_neg v0]
            exact ⟨r, r1, r2⟩
theorem op_22 : P_22 RI := by
  intro x m a0 h
  have hm2 : (ux m 0 6 0) 1 = m 1 := ux_ne (by decide)
  obtain ⟨⟨N, P, hI⟩, hF⟩ := h.2.1
  have hN := hI.1
  have eN := hI.2.1
  have hS2 : Sim 1 x ((ux m 0 6 0) 1) := by rw [hm2]; exact h.1
  have hI2 : InvNP ((ux m 0 6 0) 1) N P := by rw [hm2]; exact hI
  unfold f_X4_fair t_X4_fair f_X5_fair
  simp -implicitDefEqProofs only [sb]
  rcases f_isC (m := ux m 0 6 0) hN (by rw [hm2]; exact eN) a0 with ⟨e, w⟩ | ⟨c, hc, rfl, e⟩
  · rw [(f_hasC h.1 hN eN a0).1 w, e]
    exact Or.inr ⟨1, 1, 0, ux (ux m 0 6 0) 0 6 1, ⟨rfl, rfl⟩, rfl, rfl, ux_at, (h.thr 0).thr 1⟩
  rw [(f_hasC h.1 hN eN (nI c)).2 c hc rfl, e, sb, sb, sb, show f_X4_requireIndex 1 = some () from rfl, sb, if_neg (show ¬ (1 : Int32) = 0 by decide)]
  obtain ⟨k, hk, -⟩ := hI.2.2.2.2.2.2.1 c hc
  obtain ⟨s, hs, es⟩ := h.2.1.size hk.1
  left
  obtain ⟨r, r1, r2⟩ := f_fair hS2 hI2 hc hk.1 hs (by rw [hm2]; exact es) s 4096 0 (-1) (Or.inl rfl) (by omega) (by omega)
  have r1 : f_X4_fair_31 x 4096 (nI c) (nI k) (-1) 0 = some r := r1
  have r2 : f_X5_fairOf_15 (ux m 0 6 0) 4096 (nI c) (nI k) (-1) 0 = some r := r2
  unfold f_X5_fairOf
  rw [f_kindOf h.1 hN eN hc, sb, hk.2, f_of, sb, ag (by omega), sb, hm2, hk.2, r1, r2]
  exact ⟨r, x, ux m 0 6 0, rfl, rfl, ux_at, h.thr 0⟩
