/-! ===== a run on one block ===== -/
def FS (b : Nat) (x m x1 m1 : XS) : Prop := Sim b x1 (m1 1) ∧ (∀ q, q < b ∨ b + 26 ≤ q → x1 q = x q) ∧ (∀ q, q ≠ 0 → q ≠ 1 → m1 q = m q) ∧ ∀ j, j ≠ 7 → m1 0 j = m 0 j
theorem FS.rf {b : Nat} {x m : XS} (h : Sim b x (m 1)) : FS b x m x m := ⟨h, fun _ _ => rfl, fun _ _ _ => rfl, fun _ _ => rfl⟩
theorem FS.tr {b : Nat} {x m x1 m1 x2 m2 : XS} (h : FS b x m x1 m1) (g : FS b x1 m1 x2 m2) : FS b x m x2 m2 := ⟨g.1, fun q hq => (g.2.1 q hq).trans (h.2.1 q hq), fun q h1 h2 => (g.2.2.1 q h1 h2).trans (h.2.2.1 q h1 h2), fun j hj => (g.2.2.2 j hj).trans (h.2.2.2 j hj)⟩
theorem FS.put {b : Nat} {x m x1 m1 : XS} (h : FS b x m x1 m1) {off slot i : Nat} (hi : zx off slot = some i) (v : Int32) : FS b x m (ux x1 (b + off) slot v) (ux m1 1 i v) := by
  have ho := (zx_lt hi).1
  refine ⟨by rw [ux_eq]; exact h.1.put hi v, fun q hq => by rw [ux_ne (by omega)]; exact h.2.1 q hq, fun q h1 h2 => by rw [ux_ne h2]; exact h.2.2.1 q h1 h2, fun j hj => by rw [ux_k (by decide)]; exact h.2.2.2 j hj⟩
theorem FS.how {b : Nat} {x m x1 m1 : XS} (h : FS b x m x1 m1) {i : Nat} (hi : 202 ≤ i ∧ (i - 202) % 10 = 9) (v : Int32) : FS b x m x1 (ux m1 1 i v) :=
  ⟨by rw [ux_eq]; exact h.1.how hi v, h.2.1, fun q h1 h2 => by rw [ux_ne h2]; exact h.2.2.1 q h1 h2, fun j hj => by rw [ux_k (by decide)]; exact h.2.2.2 j hj⟩
theorem FS.tell {b : Nat} {x m x1 m1 : XS} (h : FS b x m x1 m1) (v : Int32) : FS b x m x1 (ux m1 0 7 v) :=
  ⟨by rw [ux_ne (by decide)]; exact h.1, h.2.1, fun q h1 h2 => by rw [ux_ne h1]; exact h.2.2.1 q h1 h2, fun j hj => by rw [ux_j hj]; exact h.2.2.2 j hj⟩
theorem FS.R {x m x1 m1 : XS} (h : FS 1 x m x1 m1) (hR : RI x m) (hj : Inv (m1 1)) : RI x1 m1 :=
  hR.step h.1 hj (fun q hq => h.2.1 q (by omega)) (h.2.2.2 3 (by decide)) (h.2.2.2 5 (by decide)) (h.2.2.1 2 (by decide) (by decide)) (h.2.2.1 4 (by decide) (by decide))
theorem FS.z {b : Nat} {x m x1 m1 : XS} {i : Nat} {v : Int32} : (ux m1 1 i v) 1 = upd (m1 1) i v := ux_eq
/-! ===== taking off the menu ===== -/
theorem Inv.flag {z : ZS} (h : Inv z) {k a : Nat} (hk : k < 4) (ha : a < 6) {v : Int32} (hv : v = 0 ∨ v = 1) : Inv (upd z (13 + 28 * k + 4 * a) v) := by
  obtain ⟨⟨N, P, h⟩, hf⟩ := h
  refine ⟨⟨N, P, h.irr (fun i hi => pk_un (by unfold rel0 at hi; omega))⟩, fun k1 a1 hk1 ha1 => ?_, by rw [pk_un (by omega)]; exact hf.2⟩
  by_cases e : 13 + 28 * k1 + 4 * a1 = 13 + 28 * k + 4 * a
  · rw [e, pk_us]; exact hv
  · rw [pk_un e]; exact hf.1 k1 a1 hk1 ha1
theorem ix6 (k a : Nat) : nI k * 6 + nI a = nI (6 * k + a) := by rw [show (6 : Int32) = nI 6 from rfl, pk_mul, nI_add, Nat.mul_comm k 6]
theorem nI_p (n : Nat) (d : Nat) {e : Nat} (h : n + d = e) : nI n + nI d = nI e := by rw [nI_add, h]
theorem op_1 : P_1 RI := by
  intro x m a0 a1 h
  have hm2 : (ux m 0 6 0) 1 = m 1 := ux_ne (by decide)
  unfold f_X4_takeOff t_X4_takeOff f_X5_takeOff
  rcases kind_cases a0 with ⟨h1, h2⟩ | ⟨k, hk, rfl, h1, h2⟩
  · rw [f_has0 h1, h2]
    exact Or.inr ⟨1, 1, 0, ux (ux m 0 6 0) 0 6 1, Or.inl ⟨rfl, rfl⟩, rfl, rfl, ux_at, (h.thr 0).thr 1⟩
  · obtain ⟨s, hs, es⟩ := h.2.1.size hk
    rw [h2]
    simp only [sb]
    rw [if_neg (show ¬ (1 : Int32) = 0 by decide)]
    obtain ⟨q1, q2⟩ := f_has h.1 hk hs es a1
    rcases f_isAm (m := ux m 0 6 0) hk hs (by rw [hm2]; exact es) a1 with ⟨e, w⟩ | ⟨j, hj, rfl, e⟩
    · rw [q1 w, e]
      exact Or.inr ⟨1, 1, 0, ux (ux m 0 6 0) 0 6 1, Or.inl ⟨rfl, rfl⟩, rfl, rfl, ux_at, (h.thr 0).thr 1⟩
    · rw [q2 j hj rfl, e]
      rcases f_isOff (b := 1) (x := x) (m := ux m 0 6 0) (by rw [hm2]; exact h.1) hk hs (by rw [hm2]; exact es) (nI j) with ⟨f1, f2⟩ | ⟨j', -, -, -, f1, f2⟩
      · rw [f1, f2]
        exact Or.inr ⟨3, 2, 0, ux (ux m 0 6 0) 0 6 2, Or.inr ⟨rfl, rfl⟩, rfl, rfl, ux_at, (h.thr 0).thr 2⟩
      · rw [f1, f2]
        left
        obtain ⟨x1, m1, e1, e2, e3, e4, e5, e6⟩ := saved Inv.cong (h.thr 0)
        have e4 : m1 1 = m 1 := e4.trans hm2
        have es1 : m1 1 (9 + 28 * k) = nI s := by rw [e4]; exact es
        have hF : FS 1 x1 m1 (ux x1 (1 + 6) (6 * k + j) 0) (ux m1 1 (13 + 28 * k + 4 * j) 0) := by
          have := (FS.rf e3.1).put (zx_am (j := 3) (by decide) hk (show j < 6 by omega)) 0
          rwa [show 10 + 28 * k + 4 * j + 3 = 13 + 28 * k + 4 * j by omega] at this
        have hI : Inv ((ux m1 1 (13 + 28 * k + 4 * j) 0) 1) := by rw [ux_eq]; exact e3.2.1.flag hk (by omega) (Or.inl rfl)
        have es2 : (ux m1 1 (13 + 28 * k + 4 * j) 0) 1 (9 + 28 * k) = nI s := by rw [ux_j (by omega)]; exact es1
        obtain ⟨r, r1, r2⟩ := f_nOff hF.1 hI.2 hk hs es2 s 4096 0 0 (by omega) (by omega)
        refine ⟨r, _, _, ?_, ?_, ?_, hF.R e3 hI⟩
        · simp only [sb]
          rw [show f_X4_requireIndex 1 = some () from rfl, sb, show f_X4_requireState 1 = some () from rfl, sb, e1, sb]
          unfold f_X1_remove
          rw [(f_has e3.1 hk hs es1 (nI j)).2 j hj rfl, sb, if_neg (by decide), asn' (e := nI k * 6 + nI j) (6 * k + j) (ix6 k j) (by omega), sb]
          unfold f_X1_remove_21
          rw [show (0 : Int32) = nI 0 from rfl] at r1
          rw [show (0 : Int32) = nI 0 from rfl, r1, sb]
        · simp only [sb]
          rw [if_neg (by decide), if_neg (by decide), e2, sb, f_menuAt, sb, asn' (e := nI (10 + 28 * k + 4 * j) + 3) (13 + 28 * k + 4 * j) (nI_p _ 3 (by omega)) (by omega), sb]
          unfold f_X5_offered
          rw [show (0 : Int32) = nI 0 from rfl] at r2
          rw [show (0 : Int32) = nI 0 from rfl, r2, sb]
        · rw [ux_k (by decide), e5 6 (by decide), ux_at]
/-! ===== offering ===== -/
theorem hasA.grow {z z1 : ZS} {k0 k a s : Nat} (hk0 : k0 < 4) (hs : s < 6) (e : z (9 + 28 * k0) = nI s) (e1 : z1 (9 + 28 * k0) = nI (s + 1)) (hz : ∀ k, k < 4 → k ≠ k0 → z1 (9 + 28 * k) = z (9 + 28 * k)) (hk : k < 4) (h : hasA z k a) : hasA z1 k a := by
  obtain ⟨t, h0, h1, h2⟩ := h
  by_cases q : k = k0
  · subst q
    have : t = s := (nI_eq (by omega) (by omega)).mp (h1.symm.trans e)
    exact ⟨s + 1, by omega, e1, by omega⟩
  · exact ⟨t, h0, by rw [hz k hk q, h1], h2⟩
theorem Inv.offer {z z1 : ZS} (h : Inv z) {k0 s : Nat} (hk0 : k0 < 4) (hs : s < 6) (e : z (9 + 28 * k0) = nI s) (e1 : z1 (9 + 28 * k0) = nI (s + 1)) (hfl : z1 (13 + 28 * k0 + 4 * s) = 1)
    (hz : ∀ i, i < 442 → i ≠ 9 + 28 * k0 → (i < 10 + 28 * k0 + 4 * s ∨ 13 + 28 * k0 + 4 * s < i) → z1 i = z i) : Inv z1 := by
  obtain ⟨⟨N, P, h⟩, hf⟩ := h
  have hP := h.P24
  obtain ⟨h1, h2, ⟨mo, o1, o2⟩, h3, h4, h5, h6, h7, h8⟩ := h
  have hzk : ∀ k, k < 4 → k ≠ k0 → z1 (9 + 28 * k) = z (9 + 28 * k) := fun k hk hk1 => hz _ (by omega) (by omega) (by omega)
  have hA : ∀ {k a : Nat}, k < 4 → hasA z k a → hasA z1 k a := fun hk q => q.grow hk0 hs e e1 hzk hk
  have hK : ∀ {c k : Nat}, c < 24 → kd z c k → kd z1 c k := fun hc q => ⟨q.1, by rw [hz _ (by omega) (by omega) (by omega), q.2]⟩
  have hcost : ∀ {k a : Nat}, k < 4 → hasA z k a → z1 (10 + 28 * k + 4 * a) = z (10 + 28 * k + 4 * a) := fun {k a} hk q => by
    obtain ⟨t, t0, t1, t2⟩ := q
    refine hz _ (by omega) (by omega) ?_
    by_cases w : k = k0
    · subst w
      have : t = s := (nI_eq (by omega) (by omega)).mp (t1.symm.trans e)
      omega
    · omega
  refine ⟨⟨N, P, h1, by rw [hz _ (by omega) (by omega) (by omega), h2], ⟨mo, o1, by rw [hz _ (by omega) (by omega) (by omega), o2]⟩, by rw [hz _ (by omega) (by omega) (by omega), h3], ?_, fun k hk => ?_, fun c hc => ?_, fun p hp => ?_, fun i hi => ?_⟩, fun k a hk ha => ?_, by rw [hz 1 (by omega) (by omega) (by omega)]; exact hf.2⟩
  · rw [cnt_congr (g := fun c => z (205 + 10 * c) ≠ 0) N (fun c hc => by rw [hz _ (by omega) (by omega) (by omega)])]
    exact h4
  · by_cases q : k = k0
    · subst q; exact ⟨s + 1, by omega, e1⟩
    · rw [hzk k hk q]; exact h5 k hk
  · obtain ⟨k, k1, ⟨v, v1, v2, v3⟩, st, s1, s2, s3, s4⟩ := h6 c hc
    refine ⟨k, hK (by omega) k1, ⟨v, v1, v2, by rw [hz _ (by omega) (by omega) (by omega), v3]⟩, st, s1, by rw [hz _ (by omega) (by omega) (by omega), s2], fun q => ?_, fun q => ?_⟩
    · rw [hz _ (by omega) (by omega) (by omega), hz _ (by omega) (by omega) (by omega), hz _ (by omega) (by omega) (by omega), hz _ (by omega) (by omega) (by omega), hz _ (by omega) (by omega) (by omega), hz _ (by omega) (by omega) (by omega)]
      exact s3 q
    · obtain ⟨⟨a, a1, a2, a3⟩, b⟩ := s4 q
      refine ⟨⟨a, hA k1.1 a1, by rw [hz _ (by omega) (by omega) (by omega), a2], by rw [hz _ (by omega) (by omega) (by omega), hcost k1.1 a1, a3]⟩, ?_⟩
      rw [hz (211 + 10 * c) (by omega) (by omega) (by omega), hz (210 + 10 * c) (by omega) (by omega) (by omega)]
      rcases b with b | ⟨p, s9, b1, b2, b3, b4, b5, b6⟩
      · exact Or.inl b
      · exact Or.inr ⟨p, s9, b1, b2, by rw [hz _ (by omega) (by omega) (by omega), b3], b4, hK b4 b5, b6⟩
  · obtain ⟨s9, s1, s2, s3, k, k1, a, a1, a2⟩ := h7 p hp
    exact ⟨s9, s1, by rw [hz _ (by omega) (by omega) (by omega), s2], by rw [hz _ (by omega) (by omega) (by omega)]; exact s3, k, hK (by omega) k1, a, hA k1.1 a1, by rw [hz _ (by omega) (by omega) (by omega), a2]⟩
  · unfold LtOK
    rw [hz (118 + i) (by omega) (by omega) (by omega)]
    rcases h8 i hi with q | ⟨p, s9, b1, b2, b3, b4, b5⟩
    · exact Or.inl q
    · exact Or.inr ⟨p, s9, b1, b2, by rw [hz _ (by omega) (by omega) (by omega), b3], b4, by rw [hz _ (by omega) (by omega) (by omega), b5]⟩
  · by_cases q : k = k0 ∧ a = s
    · obtain ⟨rfl, rfl⟩ := q; exact Or.inr hfl
    · rw [hz _ (by omega) (by omega) (by omega)]; exact hf.1 k a hk ha
