theorem f_kind1 {k : Nat} (hk : k < 4) : f_X4_isKind (nI k) = some 1 := by
  rcases (show k = 0 ∨ k = 1 ∨ k = 2 ∨ k = 3 by omega) with rfl | rfl | rfl | rfl <;> decide +kernel
theorem f_size {b : Nat} {x : XS} {z : ZS} (hS : Sim b x z) {k s : Nat} (hk : k < 4) (h : z (9 + 28 * k) = nI s) : f_X1_sizeOf b x (nI k) = some (nI s) := by
  unfold f_X1_sizeOf
  rw [f_kind1 hk, sb, if_neg (by decide), ag hk, sb, sm_size hS hk, h]
/-! ===== complaining ===== -/
theorem cust_cases (a : Int32) : f_X4_isCustomer a = f_X5_in a 0 9 ∧ (f_X4_isCustomer a = some 0 ∨ f_X4_isCustomer a = some 1) := by
  rw [in_eq]
  unfold f_X4_isCustomer f_X4_isWithin
  rcases pk_ix a (n := 10) (by decide) with h | h | ⟨j, hj, rfl⟩
  · rw [if_pos h, if_pos h]; exact ⟨rfl, Or.inl rfl⟩
  · have h0 : ¬ a < 0 := fun q => absurd (Int32.lt_of_le_of_lt h q) (by decide)
    have h3 : (9 : Int32) < a := Int32.lt_of_lt_of_le (by decide) h
    rw [if_neg h0, if_pos (show (10 : Int32) ≤ a from h), if_neg h0, if_pos h3]
    exact ⟨rfl, Or.inl rfl⟩
  · rw [if_neg (nI_pos (by omega)), if_neg (show ¬ (10 : Int32) ≤ nI j from nI_ge (a := j) (b := 10) hj (by decide)), if_neg (nI_pos (by omega)), if_neg (show ¬ (9 : Int32) < nI j from nI_nlt (b := j) (a := 9) (by omega) (by decide))]
    exact ⟨rfl, Or.inr rfl⟩
theorem cnt_new {z z1 : ZS} {N : Nat} (hz : ∀ c, c < N → z1 (205 + 10 * c) = z (205 + 10 * c)) (h0 : z1 (205 + 10 * N) = 0) : cnt (fun c => z1 (205 + 10 * c) ≠ 0) (N + 1) = cnt (fun c => z (205 + 10 * c) ≠ 0) N := by
  show cnt (fun c => z1 (205 + 10 * c) ≠ 0) N + (if z1 (205 + 10 * N) ≠ 0 then 1 else 0) = _
  rw [if_neg (fun q => q h0), cnt_congr (g := fun c => z (205 + 10 * c) ≠ 0) N (fun c hc => by rw [hz c hc])]
  rfl
theorem InvNP.complain {z z1 : ZS} {N P k v : Nat} (h : InvNP z N P) (hN : N < 24) (hk : k < 4) (v1 : 1 ≤ v) (v2 : v ≤ 9) (e0 : z1 0 = nI (N + 1)) (ek : z1 (202 + 10 * N) = nI k) (ev : z1 (203 + 10 * N) = nI v) (e5 : z1 (205 + 10 * N) = 0)
    (e6 : z1 (206 + 10 * N) = -1) (e7 : z1 (207 + 10 * N) = 0) (e8 : z1 (208 + 10 * N) = -1) (e9 : z1 (209 + 10 * N) = -1) (e10 : z1 (210 + 10 * N) = -1) (e11 : z1 (211 + 10 * N) = 0)
    (hz : ∀ i, i ≠ 0 → (i < 202 + 10 * N ∨ 211 + 10 * N < i) → z1 i = z i) : InvNP z1 (N + 1) P := by
  have hP := h.P24
  obtain ⟨h1, h2, ⟨mo, o1, o2⟩, h3, h4, h5, h6, h7, h8⟩ := h
  have hA : ∀ {k a : Nat}, k < 4 → hasA z k a → hasA z1 k a := fun hk q => by
    obtain ⟨t, t0, t1, t2⟩ := q
    exact ⟨t, t0, by rw [hz _ (by omega) (by omega), t1], t2⟩
  have hK : ∀ {c k : Nat}, c < N → kd z c k → kd z1 c k := fun hc q => ⟨q.1, by rw [hz _ (by omega) (by omega), q.2]⟩
  have hS : ∀ p, p < P → ∀ s, z (132 + 3 * p) = nI s → s < 24 → s < N := fun p hp s e hs => by
    obtain ⟨s9, a1, a2, -⟩ := h7 p hp
    have : s = s9 := (nI_eq (by omega) (by omega)).mp (e.symm.trans a2)
    omega
  refine ⟨by omega, e0, ⟨mo, o1, by rw [hz _ (by omega) (by omega), o2]⟩, by rw [hz _ (by omega) (by omega), h3], ?_, fun k hk => ?_, fun c hc => ?_, fun p hp => ?_, fun i hi => ?_⟩
  · rw [cnt_new (z := z) (fun c hc => hz _ (by omega) (by omega)) e5]
    exact h4
  · obtain ⟨s, s1, s2⟩ := h5 k hk
    exact ⟨s, s1, by rw [hz _ (by omega) (by omega), s2]⟩
  · by_cases q : c = N
    · subst q
      exact ⟨k, ⟨hk, ek⟩, ⟨v, v1, v2, ev⟩, 0, by omega, e5, fun _ => ⟨e6, e7, e8, e9, e10, e11⟩, fun w => absurd rfl w⟩
    · have hc : c < N := by omega
      obtain ⟨k, k1, ⟨v, v1, v2, v3⟩, st, s1, s2, s3, s4⟩ := h6 c hc
      refine ⟨k, hK hc k1, ⟨v, v1, v2, by rw [hz _ (by omega) (by omega), v3]⟩, st, s1, by rw [hz _ (by omega) (by omega), s2], fun w => ?_, fun w => ?_⟩
      · rw [hz _ (by omega) (by omega), hz _ (by omega) (by omega), hz _ (by omega) (by omega), hz _ (by omega) (by omega), hz _ (by omega) (by omega), hz _ (by omega) (by omega)]
        exact s3 w
      · obtain ⟨⟨a, a1, a2, a3⟩, b⟩ := s4 w
        have ha : a < 6 := by obtain ⟨s, q0, q1, q2⟩ := a1; omega
        have hk4 := k1.1
        refine ⟨⟨a, hA k1.1 a1, by rw [hz _ (by omega) (by omega), a2], by rw [hz _ (by omega) (by omega), hz (10 + 28 * k + 4 * a) (by omega) (by omega), a3]⟩, ?_⟩
        rw [hz (211 + 10 * c) (by omega) (by omega), hz (210 + 10 * c) (by omega) (by omega)]
        rcases b with b | ⟨p, s9, b1, b2, b3, b4, b5, b6⟩
        · exact Or.inl b
        · exact Or.inr ⟨p, s9, b1, b2, by rw [hz _ (by omega) (by omega), b3], b4, hK (hS p b1 s9 b3 b4) b5, b6⟩
  · obtain ⟨s9, s1, s2, s3, k, k1, a, a1, a2⟩ := h7 p hp
    exact ⟨s9, by omega, by rw [hz _ (by omega) (by omega), s2], by rw [hz _ (by omega) (by omega)]; exact s3, k, hK s1 k1, a, hA k1.1 a1, by rw [hz _ (by omega) (by omega), a2]⟩
  · unfold LtOK
    rw [hz (118 + i) (by omega) (by omega)]
    rcases h8 i hi with q | ⟨p, s9, b1, b2, b3, b4, b5⟩
    · exact Or.inl q
    · have := hS p b1 s9 b3 b4
      exact Or.inr ⟨p, s9, b1, b2, by rw [hz _ (by omega) (by omega), b3], b4, by rw [hz _ (by omega) (by omega), b5]⟩
theorem op_4 : P_4 RI := by
  intro x m a0 a1 a2 h
  have hm2 : (ux m 0 6 0) 1 = m 1 := ux_ne (by decide)
  unfold f_X4_complain t_X4_complain f_X5_complain
  obtain ⟨c1, c2⟩ := cust_cases a2
  rw [← c1]
  rcases kind_cases a0 with ⟨h1, h2⟩ | ⟨k, hk, rfl, h1, h2⟩
  · rw [h1, h2]
    exact Or.inr ⟨1, 1, 0, ux (ux m 0 6 0) 0 6 1, Or.inl ⟨rfl, rfl⟩, rfl, rfl, ux_at, (h.thr 0).thr 1⟩
  · rw [h1, h2, in_eq]
    rcases within_cases a1 1 9 (by decide) (by decide) with w1 | ⟨v, v1, v2, rfl, w1⟩
    · have w1 : f_X4_isWithin a1 1 9 = some 0 := w1
      rw [w1]; exact Or.inr ⟨2, 2, 0, ux (ux m 0 6 0) 0 6 2, Or.inr (Or.inl ⟨rfl, rfl⟩), rfl, rfl, ux_at, (h.thr 0).thr 2⟩
    have w1 : f_X4_isWithin (nI v) 1 9 = some 1 := w1
    rcases c2 with w2 | w2
    · rw [w1, w2]; exact Or.inr ⟨2, 2, 0, ux (ux m 0 6 0) 0 6 2, Or.inr (Or.inl ⟨rfl, rfl⟩), rfl, rfl, ux_at, (h.thr 0).thr 2⟩
    rw [w1, w2]
    simp only [sb]
    rw [show f_X4_requireIndex 1 = some () from rfl, show f_X4_requireArgument 1 = some () from rfl]
    simp only [sb]
    obtain ⟨⟨N, P, hI⟩, hF⟩ := h.2.1
    have eN : x (1 + 7) 0 = nI N := by rw [sm_N h.1]; exact hI.2.1
    rw [eN, if_neg (show ¬ (1 : Int32) = 0 by decide), if_neg (show ¬ (1 : Int32) = 0 by decide), if_neg (show ¬ (1 : Int32) = 0 by decide), ag' (e := 0) (n := 442) 0 rfl (by decide), sb, hm2, hI.2.1]
    by_cases h24 : N = 24
    · subst h24
      rw [if_pos (show (24 : Int32) ≤ nI 24 by decide), if_pos (show nI 24 = (24 : Int32) from rfl)]
      exact Or.inr ⟨3, 3, 0, ux (ux m 0 6 0) 0 6 3, Or.inr (Or.inr ⟨rfl, rfl⟩), rfl, rfl, ux_at, (h.thr 0).thr 3⟩
    · have hN : N < 24 := by have := hI.1; omega
      left
      obtain ⟨x1, m1, e1, e2, e3, e4, e5, e6⟩ := saved Inv.cong (h.thr 0)
      have e4 : m1 1 = m 1 := e4.trans hm2
      have z0 : m1 1 0 = nI N := by rw [e4]; exact hI.2.1
      have F1 := (FS.rf e3.1).put (zx_co (j := 0) (by decide) hN) (nI k)
      have F2 := F1.put (zx_co (j := 1) (by decide) hN) (nI v)
      have F3 := F2.put (zx_co (j := 2) (by decide) hN) a2
      have F4 := F3.put (zx_co (j := 3) (by decide) hN) 0
      have F5 := F4.put (zx_co (j := 4) (by decide) hN) (-1)
      have F6 := F5.put (zx_co (j := 5) (by decide) hN) 0
      have F7 := F6.put (zx_co (j := 6) (by decide) hN) (-1)
      have F8 := F7.put (zx_co (j := 7) (by decide) hN) (-1)
      have F9 := F8.put (zx_co (j := 8) (by decide) hN) (-1)
      have F10 := F9.how (i := 202 + 10 * N + 9) (by omega) 0
      have F11 := F10.put (show zx 7 0 = some 0 from rfl) (nI (N + 1))
      refine ⟨nI N, _, _, ?_, ?_, ?_, F11.R e3 ?_⟩
      · rw [if_neg (show ¬ (24 : Int32) ≤ nI N from nI_ge (a := N) (b := 24) hN (by decide))]
        unfold f_X4_complain_44
        rw [show f_X4_requireState 1 = some () from rfl, sb, e1, sb]
        unfold f_X0_add
        rw [show x1 (1 + 7) 0 = nI N by rw [sm_N e3.1]; exact z0, if_pos (show nI N < (24 : Int32) from nI_lt (b := 24) hN (by decide)), sb, asn hN, sb, asn hN, sb, asn hN, sb, asn hN, sb, asn hN, sb, asn hN, sb, asn hN, sb, asn hN, sb, asn hN, sb, sb, nI_1]
        rfl
      · rw [if_neg (show ¬ nI N = (24 : Int32) from fun q => h24 ((nI_eq (by omega) (by decide)).mp (q.trans rfl))), e2]
        simp only [sb]
        unfold f_X5_complainNow
        rw [ag' (e := 0) (n := 442) 0 rfl (by decide), sb, z0, f_of, sb]
        rw [asn (by omega), sb, asn' (e := nI (202 + 10 * N) + 1) (202 + 10 * N + 1) (nI_1 _) (by omega), sb, asn' (e := nI (202 + 10 * N) + 2) (202 + 10 * N + 2) (nI_p _ 2 rfl) (by omega), sb, asn' (e := nI (202 + 10 * N) + 3) (202 + 10 * N + 3) (nI_p _ 3 rfl) (by omega), sb, asn' (e := nI (202 + 10 * N) + 4) (202 + 10 * N + 4) (nI_p _ 4 rfl) (by omega), sb, asn' (e := nI (202 + 10 * N) + 5) (202 + 10 * N + 5) (nI_p _ 5 rfl) (by omega), sb, asn' (e := nI (202 + 10 * N) + 6) (202 + 10 * N + 6) (nI_p _ 6 rfl) (by omega), sb, asn' (e := nI (202 + 10 * N) + 7) (202 + 10 * N + 7) (nI_p _ 7 rfl) (by omega), sb, asn' (e := nI (202 + 10 * N) + 8) (202 + 10 * N + 8) (nI_p _ 8 rfl) (by omega), sb, asn' (e := nI (202 + 10 * N) + 9) (202 + 10 * N + 9) (nI_p _ 9 rfl) (by omega), sb]
        rw [ag' (e := 0) (n := 442) 0 rfl (by decide), sb, ux_j (by omega), ux_j (by omega), ux_j (by omega), ux_j (by omega), ux_j (by omega), ux_j (by omega), ux_j (by omega), ux_j (by omega), ux_j (by omega), ux_j (by omega), z0, asn' (e := 0) 0 rfl (by decide), sb, sb, ag' (e := 0) (n := 442) 0 rfl (by decide), sb, nI_1, ux_at, nI_pred]
        rfl
      · simp only [ux_k (show (0 : Nat) ≠ 1 by decide)]
        rw [e5 6 (by decide), ux_at]
      · refine ⟨⟨N + 1, P, ?_⟩, ?_⟩
        · refine InvNP.complain (z := m1 1) (k := k) (v := v) (by rw [e4]; exact hI) hN hk v1 v2 ux_at ?_ ?_ ?_ ?_ ?_ ?_ ?_ ?_ ?_ ?_
          all_goals skip
          · rw [ux_j (by omega), ux_j (by omega), ux_j (by omega), ux_j (by omega), ux_j (by omega), ux_j (by omega), ux_j (by omega), ux_j (by omega), ux_j (by omega), ux_j (by omega)]; exact ux_at
          · rw [show 203 + 10 * N = 202 + 10 * N + 1 by omega, ux_j (by omega), ux_j (by omega), ux_j (by omega), ux_j (by omega), ux_j (by omega), ux_j (by omega), ux_j (by omega), ux_j (by omega), ux_j (by omega)]; exact ux_at
          · rw [show 205 + 10 * N = 202 + 10 * N + 3 by omega, ux_j (by omega), ux_j (by omega), ux_j (by omega), ux_j (by omega), ux_j (by omega), ux_j (by omega), ux_j (by omega)]; exact ux_at
          · rw [show 206 + 10 * N = 202 + 10 * N + 4 by omega, ux_j (by omega), ux_j (by omega), ux_j (by omega), ux_j (by omega), ux_j (by omega), ux_j (by omega)]; exact ux_at
          · rw [show 207 + 10 * N = 202 + 10 * N + 5 by omega, ux_j (by omega), ux_j (by omega), ux_j (by omega), ux_j (by omega), ux_j (by omega)]; exact ux_at
          · rw [show 208 + 10 * N = 202 + 10 * N + 6 by omega, ux_j (by omega), ux_j (by omega), ux_j (by omega), ux_j (by omega)]; exact ux_at
          · rw [show 209 + 10 * N = 202 + 10 * N + 7 by omega, ux_j (by omega), ux_j (by omega), ux_j (by omega)]; exact ux_at
          · rw [show 210 + 10 * N = 202 + 10 * N + 8 by omega, ux_j (by omega), ux_j (by omega)]; exact ux_at
          · rw [show 211 + 10 * N = 202 + 10 * N + 9 by omega, ux_j (by omega)]; exact ux_at
          · intro i hi q
            rw [ux_j hi, ux_j (by omega), ux_j (by omega), ux_j (by omega), ux_j (by omega), ux_j (by omega), ux_j (by omega), ux_j (by omega), ux_j (by omega), ux_j (by omega), ux_j (by omega)]
        · refine hF.irr (fun i hi => ?_)
          unfold isfl at hi
          rw [ux_j (by omega), ux_j (by omega), ux_j (by omega), ux_j (by omega), ux_j (by omega), ux_j (by omega), ux_j (by omega), ux_j (by omega), ux_j (by omega), ux_j (by omega), ux_j (by omega), e4]
