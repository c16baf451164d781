/-! ===== the month turns ===== -/
theorem InvNP.month {z : ZS} {N P mo : Nat} (h : InvNP z N P) (hm : mo ≤ 1000) : InvNP (upd z 1 (nI mo)) N P := by
  have hP := h.P24
  have hz : ∀ i, i ≠ 1 → upd z 1 (nI mo) i = z i := fun i hi => pk_un hi
  obtain ⟨h1, h2, -, h3, h4, h5, h6, h7, h8⟩ := h
  have hA : ∀ {k a' : Nat}, k < 4 → hasA z k a' → hasA (upd z 1 (nI mo)) k a' := fun hk q => by
    obtain ⟨t, t0, t1, t2⟩ := q
    exact ⟨t, t0, by rw [hz _ (by omega), t1], t2⟩
  have hK : ∀ {d k : Nat}, kd z d k → kd (upd z 1 (nI mo)) d k := fun q => ⟨q.1, by rw [hz _ (by omega), q.2]⟩
  refine ⟨h1, by rw [hz _ (by omega), h2], ⟨mo, hm, pk_us⟩, by rw [hz _ (by omega), h3], ?_, fun k' hk' => ?_, fun d hd => ?_, fun p' hp' => ?_, fun i hi => ?_⟩
  · rw [cnt_congr (g := fun c => z (205 + 10 * c) ≠ 0) N (fun d hd => by rw [hz _ (by omega)])]
    exact h4
  · obtain ⟨s, s1, s2⟩ := h5 k' hk'
    exact ⟨s, s1, by rw [hz _ (by omega), s2]⟩
  · obtain ⟨k', k1, ⟨v, v1, v2, v3⟩, t, s1, s2, s3, s4⟩ := h6 d hd
    have hk4' := k1.1
    refine ⟨k', hK k1, ⟨v, v1, v2, by rw [hz _ (by omega), v3]⟩, t, s1, by rw [hz _ (by omega), s2], fun w => ?_, fun w => ?_⟩
    · rw [hz (206 + 10 * d) (by omega), hz (207 + 10 * d) (by omega), hz (208 + 10 * d) (by omega), hz (209 + 10 * d) (by omega), hz (210 + 10 * d) (by omega), hz (211 + 10 * d) (by omega)]
      exact s3 w
    · obtain ⟨⟨a', a1, a2, a3⟩, b⟩ := s4 w
      refine ⟨⟨a', hA k1.1 a1, by rw [hz _ (by omega), a2], by rw [hz (207 + 10 * d) (by omega), hz (10 + 28 * k' + 4 * a') (by omega), a3]⟩, ?_⟩
      rw [hz (211 + 10 * d) (by omega), hz (210 + 10 * d) (by omega)]
      rcases b with b | ⟨p, s9, b1, b2, b3, b4, b5, b6⟩
      · exact Or.inl b
      · exact Or.inr ⟨p, s9, b1, b2, by rw [hz _ (by omega), b3], b4, hK b5, b6⟩
  · obtain ⟨s9, s1, s2, s3, k', k1, a', a1, a2⟩ := h7 p' hp'
    exact ⟨s9, s1, by rw [hz _ (by omega), s2], by rw [hz _ (by omega)]; exact s3, k', hK k1, a', hA k1.1 a1, by rw [hz _ (by omega), a2]⟩
  · unfold LtOK
    rw [hz (118 + i) (by omega)]
    rcases h8 i hi with w | ⟨p, s9, b1, b2, b3, b4, b5⟩
    · exact Or.inl w
    · exact Or.inr ⟨p, s9, b1, b2, by rw [hz _ (by omega), b3], b4, by rw [hz _ (by omega), b5]⟩
theorem turn_kinds {b N P : Nat} : ∀ q n k (x m : XS), k + q = 4 → q < n → Sim b x (m 1) → InvNP (m 1) N P →
    ∃ x1 m1 t, f_X3_turnMonth_12 b n x (nI k) = some (t, x1) ∧ f_X5_closeNow_12 n m (nI k) = some (t, m1) ∧ FS b x m x1 m1 ∧ InvNP (m1 1) N P ∧ (∀ i, isfl i → m1 1 i = m 1 i) := by
  intro q
  induction q with
  | zero =>
    intro n k x m hq hn hS hI
    cases n with
    | zero => omega
    | succ n =>
      have e : k = 4 := by omega
      subst e
      have F0 := (FS.rf hS).tell 0
      have hm1 : (ux m 0 7 0) 1 = m 1 := ux_ne (by decide)
      obtain ⟨x1, m1, t1, i1, i2, i3, i4, i5⟩ := turn_loop (b := b) (N := N) (P := P) N 4096 0 x (ux m 0 7 0) 0 (by omega) (by have := hI.1; omega) F0.1 (by rw [hm1]; exact hI)
      have i1 : f_X3_turnMonth_61 b 4096 x 0 0 = some (t1, x1) := i1
      have i2 : f_X5_topUps_9 4096 (ux m 0 7 0) (-1) 0 0 = some (t1, m1) := i2
      refine ⟨x1, m1, t1, ?_, ?_, F0.tr i3, i4, fun i hi => by rw [i5 i (by unfold isfl at hi; unfold gvx; omega), hm1]⟩
      · show (if (4 : Int32) ≤ nI 4 then _ else _) = _
        rw [if_pos (show (4 : Int32) ≤ nI 4 by decide), i1]
      · show (if (4 : Int32) ≤ nI 4 then _ else _) = _
        rw [if_pos (show (4 : Int32) ≤ nI 4 by decide)]
        unfold f_X5_topUps
        rw [sb, i2, sb]
  | succ q ih =>
    intro n k x m hq hn hS hI
    cases n with
    | zero => omega
    | succ n =>
      have hk : k < 4 := by omega
      have F1 := (FS.rf hS).put (zx_bud hk) (m 1 (6 + 28 * k) + ((m 1 (7 + 28 * k) - m 1 (8 + 28 * k)) * m 1 4) / 100)
      have F2 := F1.put (zx_spent hk) 0
      have hI2 : InvNP ((ux (ux m 1 (7 + 28 * k) (m 1 (6 + 28 * k) + ((m 1 (7 + 28 * k) - m 1 (8 + 28 * k)) * m 1 4) / 100)) 1 (8 + 28 * k) 0) 1) N P := hI.irr (fun i hi => by unfold rel0 at hi; rw [ux_j (by omega), ux_j (by omega)])
      obtain ⟨x1, m1, t, i1, i2, i3, i4, i5⟩ := ih n (k + 1) _ _ (by omega) (by omega) F2.1 hI2
      refine ⟨x1, m1, t, ?_, ?_, F2.tr i3, i4, fun i hi => ?_⟩
      · show (if (4 : Int32) ≤ nI k then _ else _) = _
        rw [if_neg (show ¬ (4 : Int32) ≤ nI k from nI_ge (a := k) (b := 4) hk (by decide)), ag hk, sb, f_leftX hS hk, sb]
        unfold f_X3_settingOf
        rw [show f_X4_isSetting 2 = some 1 from by decide +kernel, sb, if_neg (show ¬ (1 : Int32) = 0 by decide), ag' (e := 2) (n := 3) 2 rfl (by decide), sb, sb, asn hk, sb, asn hk, sb, sb, nI_1, sm_set hS (j := 2) (by decide), sm_base hS hk]
        exact i1
      · show (if (4 : Int32) ≤ nI k then _ else _) = _
        rw [if_neg (show ¬ (4 : Int32) ≤ nI k from nI_ge (a := k) (b := 4) hk (by decide)), f_at, sb, sb, ag (by omega), sb, f_left5 hk, sb, ag' (e := 4) (n := 442) 4 rfl (by decide), sb, asn' (e := nI (6 + 28 * k) + 1) (7 + 28 * k) (nI_p _ 1 (by omega)) (by omega), sb, sb, asn' (e := nI (6 + 28 * k) + 2) (8 + 28 * k) (nI_p _ 2 (by omega)) (by omega), sb, sb, nI_1]
        exact i2
      · rw [i5 i hi, ux_j (by unfold isfl at hi; omega), ux_j (by unfold isfl at hi; omega)]
theorem turn_now {b : Nat} {x m : XS} (hS : Sim b x (m 1)) {N P : Nat} (hI : InvNP (m 1) N P) {mo : Nat} (hm : mo < 1000) (em : m 1 1 = nI mo) : ∃ x1 m1 t, f_X3_turnMonth b x = some (t, x1) ∧ f_X5_closeNow m = some (t, m1) ∧ FS b x m x1 m1 ∧ InvNP (m1 1) N P ∧ m1 1 1 = nI (mo + 1) ∧ (∀ i, isfl i → i ≠ 1 → m1 1 i = m 1 i) := by
  have F1 : FS b x m (ux x b 7 (nI (mo + 1))) (ux m 1 1 (nI (mo + 1))) := (FS.rf hS).put (show zx 0 7 = some 1 from rfl) (nI (mo + 1))
  have hI1 : InvNP ((ux m 1 1 (nI (mo + 1))) 1) N P := by rw [ux_eq]; exact hI.month (by omega)
  obtain ⟨x1, m1, t, i1, i2, i3, i4, i5⟩ := turn_kinds (b := b) (N := N) (P := P) 4 4096 0 _ _ (by decide) (by decide) F1.1 hI1
  have i1 : f_X3_turnMonth_12 b 4096 (ux x b 7 (nI (mo + 1))) 0 = some (t, x1) := i1
  have i2 : f_X5_closeNow_12 4096 (ux m 1 1 (nI (mo + 1))) 0 = some (t, m1) := i2
  refine ⟨x1, m1, t, ?_, ?_, F1.tr i3, i4, by rw [i5 1 (Or.inl rfl), ux_at], fun i hi h1 => by rw [i5 i hi, ux_j h1]⟩
  · unfold f_X3_turnMonth
    rw [sb, sm_month hS, em, nI_1, i1]
  · unfold f_X5_closeNow
    rw [ag' (e := 1) (n := 442) 1 rfl (by decide), sb, em, nI_1, asn' (e := 1) 1 rfl (by decide), sb, i2]
theorem op_8 : P_8 RI := by
  intro x m h
  have hm2 : (ux m 0 6 0) 1 = m 1 := ux_ne (by decide)
  obtain ⟨⟨N, P, hI⟩, hF⟩ := h.2.1
  obtain ⟨hF1, mo, m5, em⟩ := hF
  unfold f_X4_closeMonth t_X4_closeMonth f_X5_closeMonth
  simp -implicitDefEqProofs only [sb]
  rw [sm_month h.1, em, ag' (e := 1) (n := 442) 1 rfl (by decide), sb, hm2, em]
  by_cases e5 : mo = 500
  · subst e5
    rw [if_pos (show (500 : Int32) ≤ nI 500 by decide), if_pos (show (500 : Int32) ≤ nI 500 by decide), if_pos (show nI 500 = (500 : Int32) from rfl)]
    exact Or.inr ⟨3, 1, 0, ux (ux m 0 6 0) 0 6 1, ⟨rfl, rfl⟩, rfl, rfl, ux_at, (h.thr 0).thr 1⟩
  · have hn : ¬ (500 : Int32) ≤ nI mo := nI_ge (a := mo) (b := 500) (by omega) (by decide)
    left
    rw [if_neg hn, if_neg (show ¬ nI mo = 500 from fun q => e5 ((nI_eq (b := 500) (by omega) (by decide)).mp q))]
    obtain ⟨x1, m1, e1, e2, g3, e4, e5, e6⟩ := saved Inv.cong (h.thr 0)
    have e4 : m1 1 = m 1 := e4.trans hm2
    obtain ⟨x2, m2, t, i1, i2, i3, i4, i5, i6⟩ := turn_now (b := 1) (x := x1) (m := m1) (N := N) (P := P) g3.1 (by rw [e4]; exact hI) (mo := mo) (by omega) (by rw [e4]; exact em)
    unfold f_X4_closeMonth_18
    rw [show f_X4_requireState 1 = some () from rfl, sb, e1, sb, i1, sb, e2, sb, i2, sb]
    refine ⟨t, x2, m2, rfl, rfl, by rw [i3.2.2.2 6 (by decide), e5 6 (by decide), ux_at], i3.R g3 ⟨⟨N, P, i4⟩, fun k a hk ha => ?_, mo + 1, by omega, i5⟩⟩
    rw [i6 _ (by unfold isfl; omega) (by omega), e4]
    exact hF1 k a hk ha
