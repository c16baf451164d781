/-! ===== complaints as a text ===== -/
theorem RR.clear {J : ZS → Prop} {x m : XS} (h : RR J x m) : RR J (ux x 0 6 0) (ux m 0 5 0) := by
  have e : (ux m 0 5 0) 1 = m 1 := ux_ne (by decide)
  exact ⟨by rw [e]; exact h.1.out (Or.inl (by decide)), by rw [e]; exact h.2.1, h.2.2.1.of (fun j hj => ux_j (by omega)) (ux_j (by decide)) (fun q hq => ux_ne (by omega)) (ux_ne (by decide)), 0, by decide, ux_at, ux_at, fun i hi => absurd hi (Nat.not_lt_zero i)⟩
theorem add_step {x m : XS} (hS : Sim 1 x (m 1)) {N P k v : Nat} (a2 : Int32) (hI : InvNP (m 1) N P) (hN : N < 24) (hk : k < 4) (v1 : 1 ≤ v) (v2 : v ≤ 9) :
    ∃ x1 m1, f_X0_add 1 x (nI k) (nI v) a2 = some (nI N, x1) ∧ f_X5_complainNow m (nI k) (nI v) a2 = some m1 ∧ FS 1 x m x1 m1 ∧ InvNP (m1 1) (N + 1) P ∧ (∀ i, isfl i → m1 1 i = m 1 i) ∧ (∀ q, q ≠ 1 → m1 q = m q) ∧ x1 54 = x 54 := by
  have z0 : m 1 0 = nI N := hI.2.1
  have F1 := (FS.rf hS).put (zx_co (j := 0) (by decide) hN) (nI k)
  have F2 := F1.put (zx_co (j := 1) (by decide) hN) (nI v)
  have F3 := F2.put (zx_co (j := 2) (by decide) hN) a2
  have F4 := F3.put (zx_co (j := 3) (by decide) hN) 0
  have F5 := F4.put (zx_co (j := 4) (by decide) hN) (-1)
  have F6 := F5.put (zx_co (j := 5) (by decide) hN) 0
  have F7 := F6.put (zx_co (j := 6) (by decide) hN) (-1)
  have F8 := F7.put (zx_co (j := 7) (by decide) hN) (-1)
  have F9 := F8.put (zx_co (j := 8) (by decide) hN) (-1)
  have F10 := F9.how (i := 202 + 10 * N + 9) (by omega) 0
  have F11 := F10.put (show zx 7 0 = some 0 from rfl) (nI (N + 1))
  refine ⟨_, _, ?_, ?_, F11, ?_, ?_, ?_, F11.2.1 54 (Or.inr (by decide))⟩
  · unfold f_X0_add
    rw [show x (1 + 7) 0 = nI N by rw [sm_N hS]; exact z0, if_pos (show nI N < (24 : Int32) from nI_lt (b := 24) hN (by decide)), sb, asn hN, sb, asn hN, sb, asn hN, sb, asn hN, sb, asn hN, sb, asn hN, sb, asn hN, sb, asn hN, sb, asn hN, sb, sb, nI_1]
  · unfold f_X5_complainNow
    rw [ag' (e := 0) (n := 442) 0 rfl (by decide), sb, z0, f_of, sb]
    rw [asn (by omega), sb, asn' (e := nI (202 + 10 * N) + 1) (202 + 10 * N + 1) (nI_1 _) (by omega), sb, asn' (e := nI (202 + 10 * N) + 2) (202 + 10 * N + 2) (nI_p _ 2 rfl) (by omega), sb, asn' (e := nI (202 + 10 * N) + 3) (202 + 10 * N + 3) (nI_p _ 3 rfl) (by omega), sb, asn' (e := nI (202 + 10 * N) + 4) (202 + 10 * N + 4) (nI_p _ 4 rfl) (by omega), sb, asn' (e := nI (202 + 10 * N) + 5) (202 + 10 * N + 5) (nI_p _ 5 rfl) (by omega), sb, asn' (e := nI (202 + 10 * N) + 6) (202 + 10 * N + 6) (nI_p _ 6 rfl) (by omega), sb, asn' (e := nI (202 + 10 * N) + 7) (202 + 10 * N + 7) (nI_p _ 7 rfl) (by omega), sb, asn' (e := nI (202 + 10 * N) + 8) (202 + 10 * N + 8) (nI_p _ 8 rfl) (by omega), sb, asn' (e := nI (202 + 10 * N) + 9) (202 + 10 * N + 9) (nI_p _ 9 rfl) (by omega), sb]
    rw [ag' (e := 0) (n := 442) 0 rfl (by decide), sb, ux_j (by omega), ux_j (by omega), ux_j (by omega), ux_j (by omega), ux_j (by omega), ux_j (by omega), ux_j (by omega), ux_j (by omega), ux_j (by omega), ux_j (by omega), z0, asn' (e := 0) 0 rfl (by decide), sb, nI_1]
    rfl
  · refine InvNP.complain (z := m 1) (k := k) (v := v) hI hN hk v1 v2 ux_at ?_ ?_ ?_ ?_ ?_ ?_ ?_ ?_ ?_ ?_
    all_goals skip
    · rw [ux_j (by omega), ux_j (by omega), ux_j (by omega), ux_j (by omega), ux_j (by omega), ux_j (by omega), ux_j (by omega), ux_j (by omega), ux_j (by omega), ux_j (by omega)]; exact ux_at
    · rw [show 203 + 10 * N = 202 + 10 * N + 1 by omega, ux_j (by omega), ux_j (by omega), ux_j (by omega), ux_j (by omega), ux_j (by omega), ux_j (by omega), ux_j (by omega), ux_j (by omega), ux_j (by omega)]; exact ux_at
    · rw [show 205 + 10 * N = 202 + 10 * N + 3 by omega, ux_j (by omega), ux_j (by omega), ux_j (by omega), ux_j (by omega), ux_j (by omega), ux_j (by omega), ux_j (by omega)]; exact ux_at
    · rw [show 206 + 10 * N = 202 + 10 * N + 4 by omega, ux_j (by omega), ux_j (by omega), ux_j (by omega), ux_j (by omega), ux_j (by omega), ux_j (by omega)]; exact ux_at
    · rw [show 207 + 10 * N = 202 + 10 * N + 5 by omega, ux_j (by omega), ux_j (by omega), ux_j (by omega), ux_j (by omega), ux_j (by omega)]; exact ux_at
    · rw [show 208 + 10 * N = 202 + 10 * N + 6 by omega, ux_j (by omega), ux_j (by omega), ux_j (by omega), ux_j (by omega)]; exact ux_at
    · rw [show 209 + 10 * N = 202 + 10 * N + 7 by omega, ux_j (by omega), ux_j (by omega), ux_j (by omega)]; exact ux_at
    · rw [show 210 + 10 * N = 202 + 10 * N + 8 by omega, ux_j (by omega), ux_j (by omega)]; exact ux_at
    · rw [show 211 + 10 * N = 202 + 10 * N + 9 by omega, ux_j (by omega)]; exact ux_at
    · intro i hi q
      rw [ux_j hi, ux_j (by omega), ux_j (by omega), ux_j (by omega), ux_j (by omega), ux_j (by omega), ux_j (by omega), ux_j (by omega), ux_j (by omega), ux_j (by omega), ux_j (by omega)]
  · intro i hi
    unfold isfl at hi
    rw [ux_j (by omega), ux_j (by omega), ux_j (by omega), ux_j (by omega), ux_j (by omega), ux_j (by omega), ux_j (by omega), ux_j (by omega), ux_j (by omega), ux_j (by omega), ux_j (by omega)]
  · intro q hq
    rw [ux_ne hq, ux_ne hq, ux_ne hq, ux_ne hq, ux_ne hq, ux_ne hq, ux_ne hq, ux_ne hq, ux_ne hq, ux_ne hq, ux_ne hq]
theorem f_dig {x : XS} {i : Nat} (hi : i < 60) : f_X4_digitAt x (nI i) = some (x 54 i - 48) := by
  unfold f_X4_digitAt f_X4_codeAt
  have w1 : f_X4_isWithin (nI i) 0 59 = some 1 := by
    unfold f_X4_isWithin
    rw [if_neg (nI_pos (by omega)), if_neg (show ¬ (59 : Int32) < nI i from nI_nlt (b := i) (a := 59) (by omega) (by decide))]
  rw [w1, sb, if_neg (show ¬ (1 : Int32) = 0 by decide), ag hi, sb, sb]
theorem all_loop {N0 cnt P : Nat} {w54 w5 : Nat → Int32} (hle : N0 + cnt ≤ 24) (h61 : 7 * cnt ≤ 61) (hH : ∀ t, t < cnt → ∃ k v : Nat, k < 4 ∧ 1 ≤ v ∧ v ≤ 9 ∧ w54 (7 * t + 1) - 48 = nI k ∧ w54 (7 * t + 3) - 48 = nI v ∧ w5 (3 * t) = nI k ∧ w5 (3 * t + 1) = nI v ∧ w5 (3 * t + 2) = w54 (7 * t + 5) - 48) :
    ∀ q n i (x m : XS), i + q = cnt → q < n → Sim 1 x (m 1) → InvNP (m 1) (N0 + i) P → m 0 9 = nI cnt → x 54 = w54 → m 5 = w5 →
    ∃ x1 m1, f_X4_complainAll_72 n x (nI cnt) (nI i) = some (nI (N0 + cnt), ux x1 0 6 0) ∧ f_X5_complainAll_46 n m (nI i) = some (nI (N0 + cnt), ux m1 0 5 0) ∧ FS 1 x m x1 m1 ∧ InvNP (m1 1) (N0 + cnt) P ∧ (∀ i, isfl i → m1 1 i = m 1 i) ∧ m1 0 = m 0 := by
  intro q
  induction q with
  | zero =>
    intro n i x m hq hn hS hI h9 hx hm
    cases n with
    | zero => omega
    | succ n =>
      have e : i = cnt := by omega
      subst e
      refine ⟨x, m, ?_, ?_, FS.rf hS, hI, fun _ _ => rfl, rfl⟩
      · show (if nI i ≤ nI i then _ else _) = _
        rw [if_pos (Int32.le_refl _), sb, ux_ne (by decide), sm_N hS, hI.2.1]
      · show (if m 0 9 ≤ nI i then _ else _) = _
        rw [h9, if_pos (Int32.le_refl _), sb, ag' (e := 0) (n := 442) 0 rfl (by decide), sb, ux_ne (by decide), hI.2.1]
  | succ q ih =>
    intro n i x m hq hn hS hI h9 hx hm
    cases n with
    | zero => omega
    | succ n =>
      have hi : i < cnt := by omega
      obtain ⟨k, v, k4, v1, v2, d1, d2, d3, d4, d5⟩ := hH i hi
      obtain ⟨x1, m1, e1, e2, e3, e4, e5, e6, e7⟩ := add_step hS (k := k) (v := v) (w54 (7 * i + 5) - 48) hI (by omega) k4 v1 v2
      obtain ⟨x2, m2, i1, i2, i3, i4, i5, i6⟩ := ih n (i + 1) x1 m1 (by omega) (by omega) e3.1 (by rw [show N0 + (i + 1) = N0 + i + 1 by omega]; exact e4) (by rw [e6 0 (by decide)]; exact h9) (e7.trans hx) ((e6 5 (by decide)).trans hm)
      refine ⟨x2, m2, ?_, ?_, e3.tr i3, i4, fun j hj => (i5 j hj).trans (e5 j hj), i6.trans (e6 0 (by decide))⟩
      · show (if nI cnt ≤ nI i then _ else _) = _
        have h7 : nI i * 7 = nI (7 * i) := by show nI i * nI 7 = _; rw [pk_mul, Nat.mul_comm]
        rw [if_neg (nI_ge hi (by omega)), h7, sb, show nI (7 * i) + 1 = nI (7 * i + 1) from nI_1 _, show nI (7 * i) + 3 = nI (7 * i + 3) from nI_p _ 3 rfl, show nI (7 * i) + 5 = nI (7 * i + 5) from nI_p _ 5 rfl, f_dig (by omega), sb, f_dig (by omega), sb, f_dig (by omega), sb, hx, d1, d2, e1, sb]
        dsimp only
        rw [sb, nI_1]
        exact i1
      · show (if m 0 9 ≤ nI i then _ else _) = _
        have h3 : (3 : Int32) * nI i = nI (3 * i) := by show nI 3 * nI i = _; rw [pk_mul]
        rw [h9, if_neg (nI_ge hi (by omega)), h3, ag (by omega), sb, show nI (3 * i) + 1 = nI (3 * i + 1) from nI_1 _, show nI (3 * i) + 2 = nI (3 * i + 2) from nI_p _ 2 rfl, ag (by omega), sb, ag (by omega), sb, hm, d3, d4, d5, e2, sb, sb, nI_1]
        exact i2
