/-! ===== complainAll ===== -/
theorem save_5 {x m m1 : XS} (h : RI x m) (e : f_X5_save m = some m1) : m1 5 = m 5 := by
  obtain ⟨c, s, a1, a2, a3, a4, a5, a6⟩ := h.2.2.1
  obtain ⟨m2, g1, g2, g3, g4, g5, g6⟩ := m_save m c a1 a5
  have e2 : m1 = m2 := Option.some.inj (e.symm.trans g1)
  rw [e2]
  exact g4 5 (by decide) (by decide)
theorem op_12 : P_12 RI := by
  intro x m h
  obtain ⟨⟨N, P, hI⟩, hF⟩ := h.2.1
  have hN := hI.1
  obtain ⟨n, b1, b2, b3, b4⟩ := h.2.2.2
  have hC : Cd (ux m 0 6 0) n := ⟨b1, by rw [ux_j (by decide)]; exact b3, fun i hi => by rw [ux_k (by decide)]; exact (b4 i hi).2⟩
  obtain ⟨u, m1, e, t, j, j1, j2, j3, j4, j5⟩ := s_text hC
  have hX := x_first hC b2 (fun i hi => by rw [ux_k (by decide)]; exact (b4 i hi).1) j1 j3 j4
  have hR := t.R (h.thr 0)
  have hr : nI n - nI n / 7 * 7 = nI (n % 7) := pk_rem (d := 7) (by omega) (by decide) (by decide)
  have hd : (nI n + 1) / 7 = nI ((n + 1) / 7) := by rw [nI_1]; exact pk_div (d := 7) (by omega) (by decide) (by decide)
  have e1m : m1 1 = m 1 := (t.1 1 (by decide) (by decide)).trans (ux_ne (by decide))
  unfold f_X4_complainAll t_X4_complainAll f_X5_complainAll
  rw [hX, sb, sb, sb, e, sb, b2, hr]
  dsimp only
  rcases j5 with ⟨rfl, jn⟩ | ⟨rfl, en, n6, c9, hrd⟩
  · refine Or.inr ⟨2, 1, 0, ux m1 0 6 1, Or.inl ⟨rfl, rfl⟩, ?_, by rw [if_pos rfl]; rfl, ux_at, hR.thr 1⟩
    unfold t_X4_complainAll_27 t_X4_complainAll_28
    by_cases q : j = n
    · rw [q, if_pos rfl, if_neg (show ¬ nI (n % 7) = 6 from fun w => jn ⟨q, (nI_eq (b := 6) (by omega) (by decide)).mp w⟩), if_pos rfl]
    · rw [if_neg (fun w => q ((nI_eq (by omega) (by omega)).mp w)), if_pos rfl]
  · subst en
    rw [if_pos (show nI j = nI j from rfl), if_pos (show nI j = nI j from rfl), n6, if_pos (show nI 6 = (6 : Int32) from rfl), if_pos (show nI 6 = (6 : Int32) from rfl), if_neg (show ¬ (1 : Int32) = 0 by decide), ag' (e := 0) (n := 442) 0 rfl (by decide), sb, e1m, hI.2.1, c9, nI_add]
    unfold f_X4_complainAll_28 t_X4_complainAll_28
    rw [show f_X4_requireArgument 1 = some () from rfl, sb, if_neg (show ¬ (1 : Int32) = 0 by decide), b2, hd, sb, sb, sm_N h.1, hI.2.1, nI_add]
    obtain ⟨cnt, hcnt⟩ : ∃ cnt, cnt = (j + 1) / 7 := ⟨_, rfl⟩
    rw [← hcnt] at hrd c9 ⊢
    have h7 : 7 * cnt = j + 1 := by omega
    by_cases q : N + cnt ≤ 24
    · left
      rw [if_pos (show nI (N + cnt) ≤ (24 : Int32) from nI_le (a := N + cnt) (b := 24) q (by decide)), if_neg (show ¬ (24 : Int32) < nI (N + cnt) from nI_nlt (b := N + cnt) (a := 24) q (by decide))]
      obtain ⟨x1, m2, e1, e2, g3, e4, e5, e6⟩ := saved Inv.cong hR
      have s5 := save_5 hR e2
      have e4' : m2 1 = m 1 := e4.trans e1m
      obtain ⟨x3, m3, i1, i2, i3, i4, i5, i6⟩ := all_loop (N0 := N) (cnt := cnt) (P := P) (w54 := x 54) (w5 := m1 5) q (by omega) (fun t ht => by
        have pos : ∀ s, s < 7 → 7 * t + s < j → ∃ u : Nat, 33 ≤ u ∧ u ≤ 126 ∧ x 54 (7 * t + s) = nI u ∧ m 4 (7 * t + s) = nI u ∧ f_X4_fitsPlace (nI s) (nI u) = some 1 := fun s hs hj => by
          obtain ⟨q1, u, u1, u2, u3⟩ := b4 (7 * t + s) hj
          have hf := j3 (7 * t + s) hj
          unfold ft at hf
          rw [ux_k (by decide), u3, show (7 * t + s) % 7 = s by omega] at hf
          exact ⟨u, u1, u2, q1.trans u3, u3, hf⟩
        obtain ⟨u, u1, u2, u3, u4, u5⟩ := pos 1 (by decide) (by omega)
        obtain ⟨y, y1, y2, y3, y4, y5⟩ := pos 3 (by decide) (by omega)
        obtain ⟨z, z1, z2, z3, z4, z5⟩ := pos 5 (by decide) (by omega)
        obtain ⟨r1, r2, r3⟩ := hrd t ht
        rw [fp_1 u (by omega) u1] at u5
        rw [fp_3 y (by omega) y1] at y5
        rw [ux_k (by decide)] at r1 r2 r3
        have kk : ∃ k, k < 4 ∧ nI u - 48 = nI k := by
          rcases within_cases (nI u - 48) 0 3 (by decide) (by decide) with w | ⟨k, k1, k2, k3, -⟩
          · have w : f_X5_in (nI u - 48) 0 3 = some 0 := w
            rw [w] at u5
            exact absurd u5 (by decide)
          · exact ⟨k, by omega, k3⟩
        have vv : ∃ v, 1 ≤ v ∧ v ≤ 9 ∧ nI y - 48 = nI v := by
          rcases within_cases (nI y - 48) 1 9 (by decide) (by decide) with w | ⟨k, k1, k2, k3, -⟩
          · have w : f_X5_in (nI y - 48) 1 9 = some 0 := w
            rw [w] at y5
            exact absurd y5 (by decide)
          · exact ⟨k, k1, k2, k3⟩
        obtain ⟨k, k4, k5⟩ := kk
        obtain ⟨v, v1, v2, v3⟩ := vv
        exact ⟨k, v, k4, v1, v2, by rw [u3, k5], by rw [y3, v3], by rw [r1, u4, k5], by rw [r2, y4, v3], by rw [r3, z4, z3]⟩) cnt 4096 0 x1 m2 (by omega) (by omega) g3.1 (by rw [e4']; exact hI) (by rw [e5 9 (by decide)]; exact c9) (e6 54 (by decide) (by decide)) s5
      have i1 : f_X4_complainAll_72 4096 x1 (nI cnt) 0 = _ := i1
      have i2 : f_X5_complainAll_46 4096 m2 0 = _ := i2
      unfold f_X4_complainAll_63
      rw [show f_X4_requireState 1 = some () from rfl, sb, e1, sb, i1, e2, sb, i2]
      refine ⟨_, _, _, rfl, rfl, ?_, (i3.R g3 ⟨⟨_, P, i4⟩, hF.irr (fun i hi => (i5 i hi).trans (by rw [e4']))⟩).clear⟩
      rw [ux_j (by decide), i6, e5 6 (by decide), t.2 6 (by decide) (by decide), ux_at]
    · have l1 : ¬ nI (N + cnt) ≤ (24 : Int32) := nI_ge (a := 24) (b := N + cnt) (by omega) (by omega)
      have l2 : (24 : Int32) < nI (N + cnt) := nI_lt (a := 24) (b := N + cnt) (by omega) (by omega)
      rw [if_neg l1, if_pos l2, if_pos l2]
      exact Or.inr ⟨3, 2, 0, ux m1 0 6 2, Or.inr ⟨rfl, rfl⟩, rfl, rfl, ux_at, hR.thr 2⟩
