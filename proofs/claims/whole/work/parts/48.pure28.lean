/-! ===== what would be ===== -/
theorem m_aside : ∀ q n i (m : XS), i + q = 442 → q < n → ∃ m1, f_X5_putAside_2 n m (nI i) = some m1 ∧ (∀ k, k ≠ 3 → m1 k = m k) ∧ (∀ j, j < i → m1 3 j = m 3 j) ∧ ∀ j, i ≤ j → j < 442 → m1 3 j = m 1 j := by
  intro q
  induction q with
  | zero =>
    intro n i m hq hn
    cases n with
    | zero => omega
    | succ n =>
      have e : i = 442 := by omega
      subst e
      refine ⟨m, ?_, fun _ _ => rfl, fun _ _ => rfl, fun j h1 h2 => by omega⟩
      show (if (442 : Int32) ≤ nI 442 then _ else _) = _
      rw [if_pos (by decide)]
  | succ q ih =>
    intro n i m hq hn
    cases n with
    | zero => omega
    | succ n =>
      obtain ⟨m1, e1, e2, e3, e4⟩ := ih n (i + 1) (ux m 3 i (m 1 i)) (by omega) (by omega)
      refine ⟨m1, ?_, fun k hk => by rw [e2 k hk, ux_ne hk], fun j hj => by rw [e3 j (by omega), ux_j (by omega)], fun j h1 h2 => ?_⟩
      · show (if (442 : Int32) ≤ nI i then _ else _) = _
        rw [if_neg (show ¬ (442 : Int32) ≤ nI i from nI_ge (a := i) (b := 442) (by omega) (by omega)), ag (by omega), sb, asn (by omega), sb, sb, nI_1]
        exact e1
      · by_cases hj : j = i
        · subst hj
          rw [e3 _ (by omega), ux_at]
        · rw [e4 j (by omega) h2, ux_k (by decide)]
theorem m_back : ∀ q n i (m : XS), i + q = 442 → q < n → ∃ m1, f_X5_putBack_2 n m (nI i) = some m1 ∧ (∀ k, k ≠ 1 → m1 k = m k) ∧ (∀ j, j < i → m1 1 j = m 1 j) ∧ ∀ j, i ≤ j → j < 442 → m1 1 j = m 3 j := by
  intro q
  induction q with
  | zero =>
    intro n i m hq hn
    cases n with
    | zero => omega
    | succ n =>
      have e : i = 442 := by omega
      subst e
      refine ⟨m, ?_, fun _ _ => rfl, fun _ _ => rfl, fun j h1 h2 => by omega⟩
      show (if (442 : Int32) ≤ nI 442 then _ else _) = _
      rw [if_pos (by decide)]
  | succ q ih =>
    intro n i m hq hn
    cases n with
    | zero => omega
    | succ n =>
      obtain ⟨m1, e1, e2, e3, e4⟩ := ih n (i + 1) (ux m 1 i (m 3 i)) (by omega) (by omega)
      refine ⟨m1, ?_, fun k hk => by rw [e2 k hk, ux_ne hk], fun j hj => by rw [e3 j (by omega), ux_j (by omega)], fun j h1 h2 => ?_⟩
      · show (if (442 : Int32) ≤ nI i then _ else _) = _
        rw [if_neg (show ¬ (442 : Int32) ≤ nI i from nI_ge (a := i) (b := 442) (by omega) (by omega)), ag (by omega), sb, asn (by omega), sb, sb, nI_1]
        exact e1
      · by_cases hj : j = i
        · subst hj
          rw [e3 _ (by omega), ux_at]
        · rw [e4 j (by omega) h2, ux_k (by decide)]
theorem trial_go {x m : XS} (h : RI x m) : ∃ x1 m1, f_X3_copyFrom 27 1 x = some x1 ∧ f_X5_putAside m = some m1 ∧ Sim 27 x1 (m1 1) ∧ m1 1 = m 1 ∧ (∀ q, q < 27 ∨ 53 ≤ q → x1 q = x q) ∧ (∀ i, i < 442 → m1 3 i = m 1 i) ∧ ∀ q, q ≠ 3 → m1 q = m q := by
  obtain ⟨x1, e1, hC⟩ := copy_all (b := 27) (b2 := 1) x (by omega)
  obtain ⟨m1, g1, g2, -, g4⟩ := m_aside 442 4096 0 m (by decide) (by decide)
  have g1 : f_X5_putAside m = some m1 := g1
  exact ⟨x1, m1, e1, g1, by rw [g2 1 (by decide)]; exact hC.sim h.1, g2 1 (by decide), fun q hq => hC.1 q (by omega), fun i hi => g4 i (Nat.zero_le _) hi, g2⟩
theorem trial_back {x m x1 m2 : XS} (h : RI x m) (hx : ∀ q, q < 27 ∨ 53 ≤ q → x1 q = x q) (h3 : ∀ i, i < 442 → m2 3 i = m 1 i) (hk : ∀ q, q ≠ 0 → q ≠ 1 → q ≠ 3 → m2 q = m q) (h0 : ∀ j, j ≠ 7 → m2 0 j = m 0 j) : ∃ m3, f_X5_putBack m2 = some m3 ∧ RI x1 m3 ∧ m3 0 = m2 0 ∧ ∀ i, i < 442 → m3 1 i = m 1 i := by
  obtain ⟨m3, g1, g2, -, g4⟩ := m_back 442 4096 0 m2 (by decide) (by decide)
  have g1 : f_X5_putBack m2 = some m3 := g1
  have e1 : ∀ i, i < 442 → m3 1 i = m 1 i := fun i hi => (g4 i (Nat.zero_le _) hi).trans (h3 i hi)
  refine ⟨m3, g1, h.step ?_ ?_ (fun q hq => hx q (by omega)) ?_ ?_ ?_ ?_, g2 0 (by decide), e1⟩
  · exact (h.1.frame (fun j hj => hx (1 + j) (Or.inl (by omega)))).congr e1
  · exact Inv.cong _ _ e1 h.2.1
  · rw [g2 0 (by decide)]; exact h0 3 (by decide)
  · rw [g2 0 (by decide)]; exact h0 5 (by decide)
  · rw [g2 2 (by decide)]; exact hk 2 (by decide) (by decide) (by decide)
  · rw [g2 4 (by decide)]; exact hk 4 (by decide) (by decide) (by decide)
theorem sf_snoc {g : Nat → Int32} : ∀ q i, sf g (q + 1) i = sf g q i + g (i + q) := by
  intro q
  induction q with
  | zero => intro i; show g i + 0 = 0 + g (i + 0); rw [Int32.add_zero, Int32.zero_add, Nat.add_zero]
  | succ q ih =>
    intro i
    show g i + sf g (q + 1) (i + 1) = g i + sf g q (i + 1) + g (i + (q + 1))
    rw [ih (i + 1), ← Int32.add_assoc, show i + 1 + q = i + (q + 1) by omega]
theorem tg_sf {z : ZS} : ∀ n, tg z n = sf (fun i => z (207 + 10 * i)) n 0 := by
  intro n
  induction n with
  | zero => rfl
  | succ n ih =>
    rw [sf_snoc, ← ih, Nat.zero_add]
    rfl
/-- judging on trial -/
theorem judged_trial {x m : XS} (h : RI x m) {N P c k a : Nat} (hI : InvNP (m 1) N P) (hc : c < N) (h0 : m 1 (205 + 10 * c) = 2) (hk : kd (m 1) c k) (ha : hasA (m 1) k a) {w : Nat} (hw : w ≤ 3) :
    ∃ r x1 m1, ((f_X3_copyFrom 27 1 x).bind fun x45 =>
      (f_X3_makeJudgement 27 x45 (nI c) (nI a)).bind fun q54 => (fun v54 x54 =>
      if (nI w = 0 : Prop) then
        ((f_X0_gotInAll 27 x54).bind fun v95 =>
        (f_X0_gotInAll 1 x54).bind fun v105 =>
        some ((v95 - v105), x54))
      else if (nI w = 1 : Prop) then
        some (v54, x54)
      else if (nI w = 2 : Prop) then
        ((f_X3_waiting 27 x54).bind fun v117 =>
        some (v117, x54))
      else   ((f_X3_owedInAll 27 x54).bind fun v125 =>
        some (v125, x54))) q54.1 q54.2) = some (r, x1) ∧ ((f_X5_putAside m).bind fun m12 =>
      (f_X5_judgeNow m12 (nI c) (nI a)).bind fun q18 => (fun v18 m18 =>
      if (nI w = 0 : Prop) then
        f_X5_judgedOf_61 m18 v18
      else
        (if (nI w = 1 : Prop) then
          f_X5_judgedOf_61 m18 (m18 0 7)
        else
          (if (nI w = 2 : Prop) then
            f_X5_judgedOf_58 m18 8 (-1)
          else
            f_X5_judgedOf_58 m18 7 (-1)))) q18.1 q18.2) = some (r, m1) ∧ m1 0 6 = m 0 6 ∧ RI x1 m1 ∧ ∀ i, i < 442 → m1 1 i = m 1 i := by
  obtain ⟨x1, m1, e1, e2, e3, e4, e5, e6, e7⟩ := trial_go h
  obtain ⟨x2, m2, i1, i2, i3, i4, i5, i6⟩ := judge_now (b := 27) e3 (by rw [e4]; exact hI) hc (by rw [e4]; exact h0) (by rw [e4]; exact hk) (by rw [e4]; exact ha)
  have hx : ∀ q, q < 27 ∨ 53 ≤ q → x2 q = x q := fun q hq => (i3.2.1 q (by omega)).trans (e5 q hq)
  obtain ⟨m3, g1, g2, g3, g4⟩ := trial_back (x1 := x2) (m2 := m2) h hx (fun i hi => by rw [i3.2.2.1 3 (by decide) (by decide)]; exact e6 i hi) (fun q q0 q1 q3 => by rw [i3.2.2.1 q q0 q1]; exact e7 q q3) (fun j hj => by rw [i3.2.2.2 j hj, e7 0 (by decide)])
  have h61 : ∀ t, f_X5_judgedOf_61 m2 t = some (t, m3) := fun t => by
    unfold f_X5_judgedOf_61
    rw [g1, sb]
  have hm06 : m3 0 6 = m 0 6 := by rw [g3, i3.2.2.2 6 (by decide), e7 0 (by decide)]
  have hS1 : Sim 1 x2 (m 1) := h.1.frame (fun j hj => hx (1 + j) (Or.inl (by omega)))
  rw [e1, sb, i1, sb, e2, sb, i2, sb]
  dsimp only
  rcases (show w = 0 ∨ w = 1 ∨ w = 2 ∨ w = 3 by omega) with rfl | rfl | rfl | rfl
  · rw [if_pos (show nI 0 = (0 : Int32) from rfl), if_pos (show nI 0 = (0 : Int32) from rfl), x_gotAll i3.1 i4, sb, x_gotAll hS1 hI, sb, h61, i6, e4, tg_sf, tg_sf]
    exact ⟨_, x2, m3, rfl, rfl, hm06, g2, g4⟩
  · rw [if_neg (show ¬ nI 1 = (0 : Int32) by decide), if_neg (show ¬ nI 1 = (0 : Int32) by decide), if_pos (show nI 1 = (1 : Int32) from rfl), if_pos (show nI 1 = (1 : Int32) from rfl), h61]
    exact ⟨_, x2, m3, rfl, rfl, hm06, g2, g4⟩
  · rw [if_neg (show ¬ nI 2 = (0 : Int32) by decide), if_neg (show ¬ nI 2 = (0 : Int32) by decide), if_neg (show ¬ nI 2 = (1 : Int32) by decide), if_neg (show ¬ nI 2 = (1 : Int32) by decide), if_pos (show nI 2 = (2 : Int32) from rfl), if_pos (show nI 2 = (2 : Int32) from rfl), x_wait i3.1 i4, sb]
    unfold f_X5_judgedOf_58
    rw [(m_all i3.1 i4).2.2, sb, h61]
    exact ⟨_, x2, m3, rfl, rfl, hm06, g2, g4⟩
  · rw [if_neg (show ¬ nI 3 = (0 : Int32) by decide), if_neg (show ¬ nI 3 = (0 : Int32) by decide), if_neg (show ¬ nI 3 = (1 : Int32) by decide), if_neg (show ¬ nI 3 = (1 : Int32) by decide), if_neg (show ¬ nI 3 = (2 : Int32) by decide), if_neg (show ¬ nI 3 = (2 : Int32) by decide), x_owedAll i3.1 i4, sb]
    unfold f_X5_judgedOf_58
    rw [(m_all i3.1 i4).2.1, sb, h61]
    exact ⟨_, x2, m3, rfl, rfl, hm06, g2, g4⟩
theorem r_judged {x m : XS} (h : RI x m) {N P c : Nat} (hI : InvNP (m 1) N P) (hc : c < N) (a1 : Int32) {w : Nat} (hw : w ≤ 3) :
    ∃ r x1 m1, f_X4_ifJudged x (nI c) a1 (nI w) = some (r, x1) ∧ f_X5_judgedOf m (nI c) a1 (nI w) = some (r, m1) ∧ m1 0 6 = m 0 6 ∧ RI x1 m1 ∧ ∀ i, i < 442 → m1 1 i = m 1 i := by
  have hN := hI.1
  have eN := hI.2.1
  obtain ⟨v, q1, q2, q3⟩ := judge_eq h.1 hI hc a1
  have hw1 : f_X4_isWithin (nI w) 0 3 = some 1 := by
    rcases (show w = 0 ∨ w = 1 ∨ w = 2 ∨ w = 3 by omega) with rfl | rfl | rfl | rfl <;> decide +kernel
  unfold f_X4_ifJudged f_X5_judgedOf
  rw [(f_hasC h.1 hN eN (nI c)).2 c hc rfl, sb, show f_X4_requireIndex 1 = some () from rfl, sb, hw1, sb, show f_X4_requireArgument 1 = some () from rfl, sb, q1, sb, q2, sb]
  by_cases v0 : v = 0
  · obtain ⟨h0, k, a, hk, ha, rfl⟩ := q3 v0
    rw [if_pos v0, if_pos v0]
    exact judged_trial h hI hc h0 hk ha hw
  · rw [if_neg v0, if_neg v0]
    exact ⟨-1, x, m, rfl, rfl, rfl, h, fun _ _ => rfl⟩
theorem op_23 : P_23 RI := by
  intro x m a0 a1 a2 h
  have hm2 : (ux m 0 6 0) 1 = m 1 := ux_ne (by decide)
  obtain ⟨⟨N, P, hI⟩, hF⟩ := h.2.1
  have hN := hI.1
  have eN := hI.2.1
  rcases f_isC (m := ux m 0 6 0) hN (by rw [hm2]; exact eN) a0 with ⟨e, w⟩ | ⟨c, hc, rfl, e⟩
  · unfold t_X4_ifJudged f_X5_ifJudged
    rw [(f_hasC h.1 hN eN a0).1 w, sb, sb, e]
    exact Or.inr ⟨1, 1, 0, ux (ux m 0 6 0) 0 6 1, Or.inl ⟨rfl, rfl⟩, rfl, rfl, ux_at, (h.thr 0).thr 1⟩
  rcases within_cases a2 0 3 (by decide) (by decide) with w1 | ⟨v, v1, v2, rfl, w1⟩
  · have w1 : f_X4_isWithin a2 0 3 = some 0 := w1
    unfold t_X4_ifJudged f_X5_ifJudged
    rw [(f_hasC h.1 hN eN (nI c)).2 c hc rfl, sb, sb, e, sb, in_eq, w1]
    exact Or.inr ⟨2, 2, 0, ux (ux m 0 6 0) 0 6 2, Or.inr ⟨rfl, rfl⟩, rfl, rfl, ux_at, (h.thr 0).thr 2⟩
  · have w1 : f_X4_isWithin (nI v) 0 3 = some 1 := w1
    obtain ⟨r, x1, m1, e1, e2, e3, e4, -⟩ := r_judged (h.thr 0) (by rw [hm2]; exact hI) hc a1 v2
    left
    unfold f_X5_ifJudged
    rw [e1, sb, e, sb, in_eq, w1, sb, if_neg (show ¬ (1 : Int32) = 0 by decide), if_neg (show ¬ (1 : Int32) = 0 by decide), e2, sb]
    exact ⟨r, x1, m1, rfl, rfl, by rw [e3, ux_at], e4⟩
