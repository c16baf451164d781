/-! ===== the digest ===== -/
def Qd (x m : XS) (N P : Nat) : Prop := RI x m ∧ m 0 6 = 0 ∧ InvNP (m 1) N P
theorem g_judged {N P c : Nat} (hc : c < N) {k79 : XS → Int64 → Int32 → Option (Int64 × XS)} : ∀ q n n' w (x m : XS) acc, w + q = 4 → q < n → q < n' → Qd x m N P →
    ∃ acc' x' m', f_X4_digest_131 k79 n x acc (nI c) (nI w) = k79 x' acc' (nI (c + 1)) ∧ f_X5_mixComplaint_49 n' m acc (nI c) (nI w) = some (m', acc') ∧ Qd x' m' N P := by
  intro q
  induction q with
  | zero =>
    intro n n' w x m acc hq hn hn' hQ
    cases n with
    | zero => omega
    | succ n =>
      cases n' with
      | zero => omega
      | succ n' =>
        have e : w = 4 := by omega
        subst e
        refine ⟨acc, x, m, ?_, ?_, hQ⟩
        · show (if (3 : Int32) < nI 4 then _ else _) = _
          rw [if_pos (show (3 : Int32) < nI 4 by decide), sb, nI_1]
        · show (if (4 : Int32) ≤ nI 4 then _ else _) = _
          rw [if_pos (show (4 : Int32) ≤ nI 4 by decide)]
  | succ q ih =>
    intro n n' w x m acc hq hn hn' hQ
    cases n with
    | zero => omega
    | succ n =>
      cases n' with
      | zero => omega
      | succ n' =>
        obtain ⟨h, h0, hI⟩ := hQ
        obtain ⟨r, x1, m1, e1, e2, e3, e4, e5⟩ := r_judged h hI hc 1 (w := w) (by omega)
        obtain ⟨acc', x2, m2, i1, i2, i3⟩ := ih n n' (w + 1) x1 m1 (31 * acc + r.toInt64) (by omega) (by omega) (by omega) ⟨e4, e3.trans h0, hI.irr (fun i hi => e5 i (rel_lt (Or.inl hi)))⟩
        refine ⟨acc', x2, m2, ?_, ?_, i3⟩
        · show (if (3 : Int32) < nI w then _ else _) = _
          rw [if_neg (show ¬ (3 : Int32) < nI w from nI_nlt (b := w) (a := 3) (by omega) (by decide)), e1, sb]
          dsimp only
          rw [sb, sb, nI_1]
          exact i1
        · show (if (4 : Int32) ≤ nI w then _ else _) = _
          rw [if_neg (show ¬ (4 : Int32) ≤ nI w from nI_ge (a := w) (b := 4) (by omega) (by decide)), e2, sb]
          dsimp only
          rw [mx, sb, sb, nI_1]
          exact i2
theorem g_comp {N P c : Nat} (hc : c < N) {x m : XS} (hQ : Qd x m N P) (n : Nat) (acc : Int64) : ∃ acc' x' m', f_X4_digest_79 (n + 1) x acc (nI c) = f_X4_digest_79 n x' acc' (nI (c + 1)) ∧ f_X5_mixComplaint m acc (nI c) = some (m', acc') ∧ Qd x' m' N P := by
  obtain ⟨h, h0, hI⟩ := hQ
  have hN := hI.1
  obtain ⟨acc1, a1, a2⟩ := zipL (F := fun n acc i => f_X4_withComplaint_6 x n (nI c) acc i) (G := fun n acc i => f_X5_mixComplaint_2 n m acc (nI c) i) (FE := fun acc => some acc) (K := 11) (o := 0) (fun n acc => by
    show (if (10 : Int32) < nI 11 then _ else _) = _
    rw [if_pos (show (10 : Int32) < nI 11 by decide)]) (fun i hi => by
    obtain ⟨r, r1, r2⟩ := d_comp h h0 hI hc (w := i) (by omega)
    refine ⟨r, fun n acc => ?_, fun n acc => ?_⟩
    · show (if (10 : Int32) < nI i then _ else _) = _
      rw [if_neg (show ¬ (10 : Int32) < nI i from nI_nlt (b := i) (a := 10) (by omega) (by decide)), r1, sb, sb, sb, nI_1]
    · rw [Nat.zero_add, Nat.zero_add]
      show (if (11 : Int32) ≤ nI i then _ else _) = _
      rw [if_neg (show ¬ (11 : Int32) ≤ nI i from nI_ge (a := i) (b := 11) hi (by decide)), r2, sb, mx, sb, sb, nI_1]) 11 4096 4096 0 acc (by decide) (by decide) (by decide)
  have a1 : f_X4_withComplaint x acc (nI c) = some acc1 := a1
  have a2 : f_X5_mixComplaint m acc (nI c) = f_X5_mixComplaint_2 4085 m acc1 (nI c) (nI 11) := a2
  obtain ⟨rf, f1, f2⟩ := d_fair h h0 hI hc
  obtain ⟨rw', w1, w2⟩ := d_why h hI hc
  obtain ⟨acc', x', m', i1, i2, i3⟩ := g_judged hc (k79 := f_X4_digest_79 n) 4 4096 4096 0 x m (31 * (31 * acc1 + rf.toInt64) + rw'.toInt64) (by decide) (by decide) (by decide) ⟨h, h0, hI⟩
  refine ⟨acc', x', m', ?_, ?_, i3⟩
  · show (if x (1 + 7) 0 ≤ nI c then _ else _) = _
    rw [sm_N h.1, hI.2.1, if_neg (nI_ge hc (by omega)), a1, sb, f1, sb, sb, w1, sb, sb]
    exact i1
  · rw [a2]
    show (if (11 : Int32) ≤ nI 11 then _ else _) = _
    rw [if_pos (show (11 : Int32) ≤ nI 11 by decide), f2, sb, mx, sb, w2, sb, mx, sb]
    exact i2
theorem g_comps {N P : Nat} : ∀ q n n' c (x m : XS) acc, c + q = N → q < n → q < n' → Qd x m N P →
    ∃ acc' x' m', f_X4_digest_79 n x acc (nI c) = f_X4_digest_167 4096 x' acc' 0 ∧ f_X5_digest_82 n' m acc (nI c) = f_X5_digest_105 4096 m' acc' 0 ∧ Qd x' m' N P := by
  intro q
  induction q with
  | zero =>
    intro n n' c x m acc hq hn hn' hQ
    cases n with
    | zero => omega
    | succ n =>
      cases n' with
      | zero => omega
      | succ n' =>
        have e : c = N := by omega
        subst e
        refine ⟨acc, x, m, ?_, ?_, hQ⟩
        · show (if x (1 + 7) 0 ≤ nI c then _ else _) = _
          rw [sm_N hQ.1.1, hQ.2.2.2.1, if_pos (Int32.le_refl _)]
        · show (aget 442 (m 1) 0).bind _ = _
          rw [ag' (e := 0) (n := 442) 0 rfl (by decide), sb, hQ.2.2.2.1, if_pos (Int32.le_refl _)]
  | succ q ih =>
    intro n n' c x m acc hq hn hn' hQ
    cases n with
    | zero => omega
    | succ n =>
      cases n' with
      | zero => omega
      | succ n' =>
        have hc : c < N := by omega
        have hN := hQ.2.2.1
        obtain ⟨acc1, x1, m1, e1, e2, e3⟩ := g_comp hc hQ n acc
        obtain ⟨acc', x', m', i1, i2, i3⟩ := ih n n' (c + 1) x1 m1 acc1 (by omega) (by omega) (by omega) e3
        refine ⟨acc', x', m', e1.trans i1, ?_, i3⟩
        show (aget 442 (m 1) 0).bind _ = _
        rw [ag' (e := 0) (n := 442) 0 rfl (by decide), sb, hQ.2.2.2.1, if_neg (nI_ge hc (by omega)), e2, sb]
        dsimp only
        rw [sb, nI_1]
        exact i2
theorem f_code {x : XS} {i : Nat} (hi : i < 60) : f_X4_codeAt x (nI i) = some (x 54 i) := by
  unfold f_X4_codeAt
  rw [show f_X4_isWithin (nI i) 0 59 = some 1 from wi1 (lo := 0) (hi := 59) (Nat.zero_le _) (by omega) (by decide), sb, if_neg (show ¬ (1 : Int32) = 0 by decide), ag hi, sb]
theorem g_buf {x m : XS} (h : RI x m) (acc : Int64) : ∃ acc', f_X4_withBuffer x acc = some acc' ∧ f_X5_digest_159 4096 m (31 * acc + (m 0 5).toInt64) 0 = some (acc', m, acc') := by
  obtain ⟨n, b1, b2, b3, b4⟩ := h.2.2.2
  obtain ⟨acc', a1, a2⟩ := zipL (F := fun n acc i => f_X4_withBuffer_15 x n acc i) (G := fun n acc i => f_X5_digest_159 n m acc i) (FE := fun acc => some acc) (K := n) (o := 0) (fun f acc => by
    show (if x 0 6 ≤ nI n then _ else _) = _
    rw [b2, if_pos (Int32.le_refl _)]) (fun i hi => by
    refine ⟨m 4 i, fun f acc => ?_, fun f acc => ?_⟩
    · show (if x 0 6 ≤ nI i then _ else _) = _
      rw [b2, if_neg (nI_ge hi (by omega)), f_code (by omega), sb, sb, sb, nI_1, (b4 i hi).1]
    · rw [Nat.zero_add, Nat.zero_add]
      show (if m 0 5 ≤ nI i then _ else _) = _
      rw [b3, if_neg (nI_ge hi (by omega)), ag (by omega), sb, mx, sb, sb, nI_1]) n 4096 4096 0 (31 * acc + (m 0 5).toInt64) (by omega) (by omega) (by omega)
  refine ⟨acc', ?_, ?_⟩
  · unfold f_X4_withBuffer
    rw [sb, b2, ← b3]
    exact a1
  · obtain ⟨k, hk⟩ : ∃ k, 4096 - n = k + 1 := ⟨4095 - n, by omega⟩
    have a3 : f_X5_digest_159 4096 m (31 * acc + (m 0 5).toInt64) 0 = f_X5_digest_159 (4096 - n) m acc' (nI (0 + n)) := a2
    rw [a3, hk, Nat.zero_add]
    show (if m 0 5 ≤ nI n then _ else _) = _
    rw [b3, if_pos (Int32.le_refl _)]
theorem g_end {N P : Nat} {x m : XS} (hQ : Qd x m N P) (acc : Int64) : ∃ r x1 m1, f_X4_digest_167 4096 x acc 0 = some (r, x1) ∧ f_X5_digest_105 4096 m acc 0 = some (r, m1, r) ∧ RI x1 m1 := by
  obtain ⟨h, h0, hI⟩ := hQ
  obtain ⟨acc1, a1, a2⟩ := zipL (F := fun n acc i => f_X4_digest_167 n x acc i) (G := fun n acc i => f_X5_digest_105 n m acc i) (FE := fun acc => (f_X4_monthsToEqual x).bind fun q199 => (fun v199 x199 =>
      (some (((31 * acc) + (v199 : Int32).toInt64))).bind fun v204 =>
      (f_X4_followShare x199).bind fun v211 =>
      (f_X4_bitsOf v211).bind fun v214 =>
      (some (((31 * v204) + v214))).bind fun v218 =>
      (f_X4_withBuffer x199 v218).bind fun v221 =>
      some (v221, x199)) q199.1 q199.2) (K := 10) (o := 0) (fun n acc => by
    show (if (10 : Int32) ≤ nI 10 then _ else _) = _
    rw [if_pos (show (10 : Int32) ≤ nI 10 by decide)]) (fun i hi => by
    obtain ⟨r, r1, r2⟩ := d_cust h hI hi
    refine ⟨r, fun n acc => ?_, fun n acc => ?_⟩
    · show (if (10 : Int32) ≤ nI i then _ else _) = _
      rw [if_neg (show ¬ (10 : Int32) ≤ nI i from nI_ge (a := i) (b := 10) hi (by decide)), r1, sb, sb, sb, nI_1]
    · rw [Nat.zero_add, Nat.zero_add]
      show (if (10 : Int32) ≤ nI i then _ else _) = _
      rw [if_neg (show ¬ (10 : Int32) ≤ nI i from nI_ge (a := i) (b := 10) hi (by decide)), r2, sb, mx, sb, sb, nI_1]) 10 4096 4096 0 acc (by decide) (by decide) (by decide)
  have a1 : f_X4_digest_167 4096 x acc 0 = _ := a1
  have a2 : f_X5_digest_105 4096 m acc 0 = f_X5_digest_105 4086 m acc1 (nI 10) := a2
  obtain ⟨r, x1, m1, e1, e2, e3, e4, e5⟩ := r_months h
  obtain ⟨v, v1, v2, -, w, w1, w2⟩ := r_share e4.1 (hI.irr (fun i hi => e5 i (rel_lt (Or.inl hi))))
  obtain ⟨acc', b1, b2⟩ := g_buf e4 (31 * (31 * acc1 + r.toInt64) + w)
  refine ⟨acc', x1, m1, ?_, ?_, e4⟩
  · rw [a1, e1, sb]
    dsimp only
    rw [sb, v1, sb, w1, sb, sb, b1, sb]
  · rw [a2]
    show (if (10 : Int32) ≤ nI 10 then _ else _) = _
    rw [if_pos (show (10 : Int32) ≤ nI 10 by decide), e2, sb]
    dsimp only
    rw [mx, sb, v2, sb, w2, sb, mx, sb, mx, sb]
    exact b2
theorem g_kinds {N P : Nat} {x m : XS} (hQ : Qd x m N P) : ∀ q n n' k acc, k + q = 4 → q < n → q < n' → ∃ acc', f_X4_digest_59 n x acc (nI k) = f_X4_digest_79 4096 x acc' 0 ∧ f_X5_digest_64 n' m acc (nI k) = f_X5_digest_82 4096 m acc' 0 := by
  intro q
  induction q with
  | zero =>
    intro n n' k acc hq hn hn'
    cases n with
    | zero => omega
    | succ n =>
      cases n' with
      | zero => omega
      | succ n' =>
        have e : k = 4 := by omega
        subst e
        exact ⟨acc, if_pos (show (4 : Int32) ≤ nI 4 by decide), if_pos (show (4 : Int32) ≤ nI 4 by decide)⟩
  | succ q ih =>
    intro n n' k acc hq hn hn'
    cases n with
    | zero => omega
    | succ n =>
      cases n' with
      | zero => omega
      | succ n' =>
        have hk : k < 4 := by omega
        obtain ⟨acc1, a1, a2⟩ := g_kind hQ.1 hQ.2.1 hk acc
        obtain ⟨acc', i1, i2⟩ := ih n n' (k + 1) acc1 (by omega) (by omega) (by omega)
        have nk : ¬ (4 : Int32) ≤ nI k := nI_ge (a := k) (b := 4) hk (by decide)
        refine ⟨acc', ?_, ?_⟩
        · show (if (4 : Int32) ≤ nI k then _ else _) = _
          rw [if_neg nk, a1, sb, sb, nI_1]
          exact i1
        · show (if (4 : Int32) ≤ nI k then _ else _) = _
          rw [if_neg nk, a2, sb, sb, nI_1]
          exact i2
theorem op_26 : P_26 RI := by
  intro x m g h
  have hm2 : (ux m 0 6 0) 1 = m 1 := ux_ne (by decide)
  obtain ⟨⟨N, P, hI⟩, hF⟩ := h.2.1
  have hR := h.thr 0
  have h06 : (ux m 0 6 0) 0 6 = 0 := ux_at
  have hI2 : InvNP ((ux m 0 6 0) 1) N P := by rw [hm2]; exact hI
  obtain ⟨mm, hmm⟩ : ∃ mm, mm = ux m 0 6 0 := ⟨_, rfl⟩
  rw [← hmm] at hR h06 hI2
  have hQ : Qd x mm N P := ⟨hR, h06, hI2⟩
  obtain ⟨acc1, a1, a2⟩ := zipL (F := fun n acc i => f_X4_digest_6 n x acc i) (G := fun n acc i => f_X5_digest_14 n mm acc i) (FE := fun acc => f_X4_digest_33 4096 x acc 0) (K := 12) (o := 0) (fun n acc => by
    show (if (11 : Int32) < nI 12 then _ else _) = _
    rw [if_pos (show (11 : Int32) < nI 12 by decide)]) (fun i hi => by
    obtain ⟨r, r1, r2⟩ := d_count hR h06 (w := i) (by omega)
    refine ⟨r, fun n acc => ?_, fun n acc => ?_⟩
    · show (if (11 : Int32) < nI i then _ else _) = _
      rw [if_neg (show ¬ (11 : Int32) < nI i from nI_nlt (b := i) (a := 11) (by omega) (by decide)), r1, sb, sb, sb, nI_1]
    · rw [Nat.zero_add, Nat.zero_add]
      show (if (12 : Int32) ≤ nI i then _ else _) = _
      rw [if_neg (show ¬ (12 : Int32) ≤ nI i from nI_ge (a := i) (b := 12) hi (by decide)), r2, sb, mx, sb, sb, nI_1]) 12 4096 4096 0 2539 (by decide) (by decide) (by decide)
  obtain ⟨acc2, b1, b2⟩ := zipL (F := fun n acc i => f_X4_digest_33 n x acc i) (G := fun n acc i => f_X5_digest_38 n mm acc i) (FE := fun acc => f_X4_digest_59 4096 x acc 0) (K := 3) (o := 0) (fun n acc => by
    show (if (3 : Int32) ≤ nI 3 then _ else _) = _
    rw [if_pos (show (3 : Int32) ≤ nI 3 by decide)]) (fun i hi => by
    refine ⟨mm 1 (2 + i), fun n acc => ?_, fun n acc => ?_⟩
    · show (if (3 : Int32) ≤ nI i then _ else _) = _
      rw [if_neg (show ¬ (3 : Int32) ≤ nI i from nI_ge (a := i) (b := 3) hi (by decide)), d_set hR hi, sb, sb, sb, nI_1]
    · rw [Nat.zero_add, Nat.zero_add]
      show (if (3 : Int32) ≤ nI i then _ else _) = _
      rw [if_neg (show ¬ (3 : Int32) ≤ nI i from nI_ge (a := i) (b := 3) hi (by decide)), ag' (e := 2 + nI i) (n := 442) (2 + i) (nI_add 2 i) (by omega), sb, mx, sb, sb, nI_1]) 3 4096 4096 0 acc1 (by decide) (by decide) (by decide)
  obtain ⟨acc3, c1, c2⟩ := g_kinds hQ 4 4096 4096 0 acc2 (by decide) (by decide) (by decide)
  have hN := hI.1
  obtain ⟨acc4, x4, m4, d1, d2, d3⟩ := g_comps N 4096 4096 0 x mm acc3 (by omega) (by omega) (by omega) hQ
  obtain ⟨r, x5, m5, e1, e2, e3⟩ := g_end d3 acc4
  have s1 : f_X5_digest_14 4084 mm acc1 (nI 12) = f_X5_digest_38 4096 mm acc1 0 := if_pos (show (12 : Int32) ≤ nI 12 by decide)
  have s2 : f_X5_digest_38 4093 mm acc2 (nI 3) = f_X5_digest_64 4096 mm acc2 0 := if_pos (show (3 : Int32) ≤ nI 3 by decide)
  have X : f_X4_digest x = some (r, x5) := a1.trans (b1.trans (c1.trans (d1.trans e1)))
  have M : f_X5_digest_14 4096 mm 2539 0 = some (r, m5, r) := a2.trans (s1.trans (b2.trans (s2.trans (c2.trans (d2.trans e2)))))
  refine ⟨r, r, x5, m5, r, X, ?_, rfl, e3⟩
  unfold f_X5_digest
  rw [sb, sb, ← hmm]
  exact M
