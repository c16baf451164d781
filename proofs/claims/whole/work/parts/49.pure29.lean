/-! ===== months until equal ===== -/
theorem wait01 (m : XS) (N : Nat) : ∃ c : Nat, c ≤ N ∧ sf (fun i => if ow m i ≤ 0 then 0 else 1) N 0 = nI c := by
  obtain ⟨c, c1, c2⟩ := sf_01 (f := fun i => ¬ ow m i ≤ 0) N 0
  refine ⟨c, c1, ?_⟩
  rw [← c2]
  refine sf_congr N 0 (fun j _ _ => ?_)
  by_cases q : ow m j ≤ 0
  · rw [if_pos q, if_neg (fun w => w q)]
  · rw [if_neg q, if_pos q]
theorem mo6 (n : Nat) (m : XS) (l : Int32) : f_X5_monthsOf_6 (n + 1) m l = if 24 < l then f_X5_monthsOf_33 m l else ((f_X5_ofComplaints m (-1) 8).bind fun v16 => if v16 ≤ 0 then f_X5_monthsOf_33 m l else ((f_X5_closeNow m).bind fun q23 => f_X5_monthsOf_6 n q23.2 (l + 1))) := rfl
theorem me25 (n : Nat) (x : XS) (l : Int32) : f_X4_monthsToEqual_25 (n + 1) x l = if 24 < l then some (-1, x) else ((f_X3_turnMonth 27 x).bind fun q35 => (f_X3_waiting 27 q35.2).bind fun v43 => if v43 = 0 then some (l, q35.2) else f_X4_monthsToEqual_25 n q35.2 (l + 1)) := rfl
theorem mon_loop {N P : Nat} : ∀ q n n' l (x m : XS) mo, l + q = 25 → q < n → q < n' → Sim 27 x (m 1) → InvNP (m 1) N P → m 1 1 = nI mo → mo + q ≤ 900 →
    ∃ r x1 m1, f_X4_monthsToEqual_25 n x (nI l) = some (r, x1) ∧ ((f_X5_closeNow m).bind fun q23 => f_X5_monthsOf_6 n' q23.2 (nI l)) = ((f_X5_putBack m1).bind fun m34 => some (r, m34)) ∧ (∀ q, q < 27 ∨ 53 ≤ q → x1 q = x q) ∧ (∀ q, q ≠ 0 → q ≠ 1 → m1 q = m q) ∧ ∀ j, j ≠ 7 → m1 0 j = m 0 j := by
  intro q
  induction q with
  | zero =>
    intro n n' l x m mo hq hn hn' hS hI hm hb
    cases n with
    | zero => omega
    | succ n =>
      cases n' with
      | zero => omega
      | succ n' =>
        have e : l = 25 := by omega
        subst e
        obtain ⟨x1, m1, t, i1, i2, i3, i4, i5, -⟩ := turn_now hS hI (mo := mo) (by omega) hm
        refine ⟨-1, x, m1, ?_, ?_, fun _ _ => rfl, i3.2.2.1, i3.2.2.2⟩
        · rw [me25, if_pos (show (24 : Int32) < nI 25 by decide)]
        · rw [i2, sb, mo6, if_pos (show (24 : Int32) < nI 25 by decide)]
          unfold f_X5_monthsOf_33
          exact congrArg ((f_X5_putBack m1).bind) (funext fun m34 => if_neg (show ¬ nI 25 ≤ (24 : Int32) by decide))
  | succ q ih =>
    intro n n' l x m mo hq hn hn' hS hI hm hb
    cases n with
    | zero => omega
    | succ n =>
      cases n' with
      | zero => omega
      | succ n' =>
        have hl : ¬ (24 : Int32) < nI l := nI_nlt (b := l) (a := 24) (by omega) (by decide)
        obtain ⟨x1, m1, t, i1, i2, i3, i4, i5, -⟩ := turn_now hS hI (mo := mo) (by omega) hm
        obtain ⟨c, c1, c2⟩ := wait01 m1 N
        have hN := hI.1
        rw [me25, if_neg hl, i1, sb, i2, sb, mo6, if_neg hl, (m_all i3.1 i4).2.2, sb]
        dsimp only
        rw [x_wait i3.1 i4, sb, c2]
        by_cases c0 : c = 0
        · subst c0
          rw [if_pos (show nI 0 = (0 : Int32) from rfl), if_pos (show nI 0 ≤ (0 : Int32) by decide)]
          refine ⟨nI l, x1, m1, rfl, ?_, fun q hq => i3.2.1 q (by omega), i3.2.2.1, i3.2.2.2⟩
          unfold f_X5_monthsOf_33
          exact congrArg ((f_X5_putBack m1).bind) (funext fun m34 => if_pos (show nI l ≤ (24 : Int32) from nI_le (a := l) (b := 24) (by omega) (by decide)))
        · rw [if_neg (nI_ne0 (by omega) (by omega)), if_neg (nI_nle (by omega) (by omega)), nI_1]
          obtain ⟨r, x2, m2, j1, j2, j3, j4, j5⟩ := ih n n' (l + 1) x1 m1 (mo + 1) (by omega) (by omega) (by omega) i3.1 i4 i5 (by omega)
          exact ⟨r, x2, m2, j1, j2, fun q hq => (j3 q hq).trans (i3.2.1 q (by omega)), fun q q0 q1 => (j4 q q0 q1).trans (i3.2.2.1 q q0 q1), fun j hj => (j5 j hj).trans (i3.2.2.2 j hj)⟩
theorem r_months {x m : XS} (h : RI x m) : ∃ r x1 m1, f_X4_monthsToEqual x = some (r, x1) ∧ f_X5_monthsOf m = some (r, m1) ∧ m1 0 6 = m 0 6 ∧ RI x1 m1 ∧ (∀ i, i < 442 → m1 1 i = m 1 i) := by
  obtain ⟨⟨N, P, hI⟩, -, mo, mo1, em⟩ := h.2.1
  obtain ⟨x1, m1, e1, e2, e3, e4, e5, e6, e7⟩ := trial_go h
  have hI1 : InvNP (m1 1) N P := by rw [e4]; exact hI
  have hS1 : Sim 1 x (m1 1) := by rw [e4]; exact h.1
  have hN := hI.1
  obtain ⟨c, c1, c2⟩ := wait01 m1 N
  have st : f_X5_monthsOf_6 4096 m1 0 = _ := mo6 4095 m1 (nI 0)
  unfold f_X4_monthsToEqual f_X5_monthsOf
  rw [x_wait hS1 hI1, sb, e2, sb, st, (m_all e3 hI1).2.2, sb, if_neg (show ¬ (24 : Int32) < nI 0 by decide), c2]
  by_cases c0 : c = 0
  · subst c0
    obtain ⟨m3, g1, g2, g3, g4⟩ := trial_back (x1 := x) (m2 := m1) h (fun _ _ => rfl) e6 (fun q q0 q1 q3 => e7 q q3) (fun j _ => by rw [e7 0 (by decide)])
    rw [if_pos (show nI 0 = (0 : Int32) from rfl), if_pos (show nI 0 ≤ (0 : Int32) by decide)]
    refine ⟨0, x, m3, rfl, ?_, by rw [g3, e7 0 (by decide)], g2, g4⟩
    unfold f_X5_monthsOf_33
    rw [g1, sb, if_pos (show nI 0 ≤ (24 : Int32) by decide)]
    rfl
  · obtain ⟨r, x2, m2, j1, j2, j3, j4, j5⟩ := mon_loop (N := N) (P := P) 24 4096 4095 1 x1 m1 mo (by decide) (by decide) (by decide) e3 hI1 (by rw [e4]; exact em) (by omega)
    obtain ⟨m3, g1, g2, g3, g4⟩ := trial_back (x1 := x2) (m2 := m2) h (fun q hq => (j3 q hq).trans (e5 q hq)) (fun i hi => by rw [j4 3 (by decide) (by decide)]; exact e6 i hi) (fun q q0 q1 q3 => (j4 q q0 q1).trans (e7 q q3)) (fun j hj => by rw [j5 j hj, e7 0 (by decide)])
    rw [if_neg (nI_ne0 (by omega) (by omega)), if_neg (nI_nle (by omega) (by omega)), e1, sb]
    refine ⟨r, x2, m3, j1, ?_, by rw [g3, j5 6 (by decide), e7 0 (by decide)], g2, g4⟩
    have j2 : ((f_X5_closeNow m1).bind fun q23 => f_X5_monthsOf_6 4095 q23.2 (nI 0 + 1)) = _ := j2
    rw [j2, g1, sb]
theorem op_24 : P_24 RI := by
  intro x m h
  obtain ⟨r, x1, m1, e1, e2, -, e4, -⟩ := r_months (h.thr 0)
  unfold f_X5_monthsToEqual
  rw [e1, sb, e2, sb]
  exact ⟨r, r, x1, m1, rfl, rfl, rfl, e4⟩
