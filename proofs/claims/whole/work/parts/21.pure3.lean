/-! ===== undoing ===== -/
theorem m_undo : ∀ q n i (m : XS) (c : Nat), c ≤ 5 → i + q = 442 → q < n → m 0 3 = nI c → ∃ m1, f_X5_undo_30 n m (nI i) = some (nI c, m1) ∧ (∀ k, k ≠ 1 → m1 k = m k) ∧ (∀ j, j < i → m1 1 j = m 1 j) ∧ ∀ j, i ≤ j → j < 442 → m1 1 j = m 2 (442 * c + j) := by
  intro q
  induction q with
  | zero =>
    intro n i m c hc hq hn h3
    cases n with
    | zero => omega
    | succ n =>
      have e : i = 442 := by omega
      subst e
      refine ⟨m, ?_, fun _ _ => rfl, fun _ _ => rfl, fun j h1 h2 => by omega⟩
      show (if (442 : Int32) ≤ nI 442 then _ else _) = _
      rw [if_pos (by decide), h3]
  | succ q ih =>
    intro n i m c hc hq hn h3
    cases n with
    | zero => omega
    | succ n =>
      obtain ⟨m1, e1, e2, e3, e4⟩ := ih n (i + 1) (ux m 1 i (m 2 (442 * c + i))) c hc (by omega) (by omega) (by rw [ux_k (by decide)]; exact h3)
      refine ⟨m1, ?_, fun k hk => by rw [e2 k hk, ux_ne hk], fun j hj => by rw [e3 j (by omega), ux_j (by omega)], fun j h1 h2 => ?_⟩
      · show (if (442 : Int32) ≤ nI i then _ else _) = _
        rw [if_neg (show ¬ (442 : Int32) ≤ nI i from nI_ge (a := i) (b := 442) (by omega) (by omega)), ag' (e := 442 * m 0 3 + nI i) (n := 2652) (442 * c + i) (by rw [h3]; show nI 442 * nI c + nI i = _; rw [pk_mul, nI_add]) (by omega), sb, asn (by omega), sb, sb, nI_1]
        exact e1
      · by_cases hj : j = i
        · subst hj
          rw [e3 _ (by omega), ux_at]
        · rw [e4 j (by omega) h2, ux_k (by decide)]
theorem op_13 : P_13 RI := by
  intro x m h
  obtain ⟨hS, hj, ⟨c, s, a1, a2, a3, a4, a5, a6⟩, hB⟩ := h
  have h : RI x m := ⟨hS, hj, ⟨c, s, a1, a2, a3, a4, a5, a6⟩, hB⟩
  unfold f_X4_undo t_X4_undo f_X5_undo
  simp only [sb]
  rw [a3, ux_j (show 3 ≠ 6 by decide), a5]
  by_cases h0 : c = 0
  · subst h0
    rw [if_pos (show nI 0 ≤ (0 : Int32) by decide), if_pos (show nI 0 ≤ (0 : Int32) by decide), if_pos (show nI 0 = (0 : Int32) from rfl)]
    exact Or.inr ⟨3, 1, 0, ux (ux m 0 6 0) 0 6 1, ⟨rfl, rfl⟩, rfl, rfl, ux_at, (h.thr 0).thr 1⟩
  · rw [if_neg (nI_nle (by omega) (by omega)), if_neg (nI_nle (by omega) (by omega)), if_neg (nI_ne0 (by omega) (by omega))]
    left
    have ec : nI c - 1 = nI (c - 1) := by
      obtain ⟨d, rfl⟩ : ∃ d, c = d + 1 := ⟨c - 1, by omega⟩
      exact nI_pred d
    obtain ⟨m1, g1, g2, g3, g4⟩ := m_undo 442 4096 0 (ux (ux m 0 6 0) 0 3 (nI (c - 1))) (c - 1) (by omega) (by omega) (by omega) ux_at
    have hz : ∀ i, i < 442 → m1 1 i = zrow m (c - 1) i := fun i hi => by
      rw [g4 i (Nat.zero_le _) hi, ux_k (by decide), ux_k (by decide)]; rfl
    obtain ⟨b1, b2⟩ := a6 (c - 1) (by omega)
    have es : slotAt c s (c - 1) = 55 + 26 * ((s + 5) % 6) := by unfold slotAt; omega
    rw [es] at b1
    obtain ⟨y, e1, hC⟩ := copy_all (b := 1) (b2 := 55 + 26 * ((s + 5) % 6)) (ux (ux x 0 4 (nI ((s + 5) % 6))) 0 3 (nI (c - 1))) (by omega)
    have b3 := hC.sim (b1.frame (x1 := ux (ux x 0 4 (nI ((s + 5) % 6))) 0 3 (nI (c - 1))) (fun j _ => by rw [ux_ne (by omega), ux_ne (by omega)]))
    have y0 : y 0 = ux (ux x 0 4 (nI ((s + 5) % 6))) 0 3 (nI (c - 1)) 0 := hC.1 0 (by omega)
    have yk : ∀ q, 27 ≤ q → y q = x q := fun q hq => by rw [hC.1 q (by omega), ux_ne (by omega), ux_ne (by omega)]
    refine ⟨nI (c - 1), y, m1, ?_, ?_, by rw [g2 0 (by decide), ux_j (by decide), ux_at], ?_, ?_, ?_, ?_⟩
    · unfold f_X4_undo_12
      rw [show f_X4_requireState 1 = some () from rfl, sb, sb]
      have e4 : (x 0 4 + 6 - 1) - (x 0 4 + 6 - 1) / 6 * 6 = nI ((s + 5) % 6) := by
        rw [a4, show nI s + 6 = nI (s + 6) from nI_add s 6, show nI (s + 6) - 1 = nI (s + 5) from nI_pred (s + 5)]
        exact pk_rem (d := 6) (by omega) (by decide) (by decide)
      rw [e4, sb, ux_j (show 3 ≠ 4 by decide), a3, ec, ux_j (show 4 ≠ 3 by decide), ux_at, f_sav (by omega), sb, e1, sb, y0, ux_at]
    · rw [ec]; exact g1
    · exact Sim.congr b3 hz
    · exact Inv.cong _ _ hz b2
    · refine ⟨c - 1, (s + 5) % 6, by omega, by omega, by rw [y0, ux_at], by rw [y0, ux_j (by decide), ux_at], by rw [g2 0 (by decide), ux_at], fun q hq => ?_⟩
      have e2 : zrow m1 q = zrow m q := by funext i; unfold zrow; rw [g2 2 (by decide), ux_k (by decide), ux_k (by decide)]
      have e3 : slotAt (c - 1) ((s + 5) % 6) q = slotAt c s q := by unfold slotAt; omega
      rw [e2, e3]
      exact ⟨(a6 q (by omega)).1.frame (fun j _ => yk _ (by unfold slotAt; omega)), (a6 q (by omega)).2⟩
    · exact hB.of (by rw [y0, ux_j (by decide), ux_j (by decide)]) (by rw [g2 0 (by decide), ux_j (by decide), ux_j (by decide)]) (yk 54 (by decide)) (by rw [g2 4 (by decide), ux_ne (by decide), ux_ne (by decide)])
