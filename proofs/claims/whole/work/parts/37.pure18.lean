/-! ===== judging ===== -/
def tg (z : ZS) : Nat → Int32
  | 0 => 0
  | n + 1 => tg z n + z (207 + 10 * n)
theorem tg_congr {z z1 : ZS} : ∀ n, (∀ d, d < n → z1 (207 + 10 * d) = z (207 + 10 * d)) → tg z1 n = tg z n := by
  intro n
  induction n with
  | zero => intro _; rfl
  | succ n ih =>
    intro h
    show tg z1 n + _ = tg z n + _
    rw [ih (fun d hd => h d (by omega)), h n (by omega)]
theorem tg_put {z z1 : ZS} {c : Nat} (h : ∀ d, d ≠ c → z1 (207 + 10 * d) = z (207 + 10 * d)) : ∀ n, c < n → tg z1 n - tg z n = z1 (207 + 10 * c) - z (207 + 10 * c) := by
  intro n
  induction n with
  | zero => intro q; omega
  | succ n ih =>
    intro q
    show tg z1 n + z1 (207 + 10 * n) - (tg z n + z (207 + 10 * n)) = _
    by_cases e : n = c
    · subst e
      rw [tg_congr n (fun d hd => h d (by omega))]
      grind
    · have := ih (by omega)
      rw [h n e]
      grind
theorem InvNP.give {z z1 : ZS} {N P c k a : Nat} (h : InvNP z N P) (hc : c < N) (h0 : z (205 + 10 * c) ≠ 0) (hk : kd z c k) (ha : hasA z k a) (g4 : z1 (206 + 10 * c) = nI a) (g5 : z1 (207 + 10 * c) = z (10 + 28 * k + 4 * a)) (hz : ∀ i, i ≠ 206 + 10 * c → i ≠ 207 + 10 * c → i ≠ 8 + 28 * k → z1 i = z i) : InvNP z1 N P := by
  have hP := h.P24
  obtain ⟨h1, h2, ⟨mo, o1, o2⟩, h3, h4, h5, h6, h7, h8⟩ := h
  have hk4 := hk.1
  have hA : ∀ {k a : Nat}, k < 4 → hasA z k a → hasA z1 k a := fun hk q => by
    obtain ⟨t, t0, t1, t2⟩ := q
    exact ⟨t, t0, by rw [hz _ (by omega) (by omega) (by omega), t1], t2⟩
  have hK : ∀ {d k : Nat}, kd z d k → kd z1 d k := fun q => ⟨q.1, by rw [hz _ (by omega) (by omega) (by omega), q.2]⟩
  refine ⟨h1, by rw [hz _ (by omega) (by omega) (by omega), h2], ⟨mo, o1, by rw [hz _ (by omega) (by omega) (by omega), o2]⟩, by rw [hz _ (by omega) (by omega) (by omega), h3], ?_, fun k' hk' => ?_, fun d hd => ?_, fun p hp => ?_, fun i hi => ?_⟩
  · rw [cnt_congr (g := fun c => z (205 + 10 * c) ≠ 0) N (fun d hd => by rw [hz _ (by omega) (by omega) (by omega)])]
    exact h4
  · obtain ⟨s, s1, s2⟩ := h5 k' hk'
    exact ⟨s, s1, by rw [hz _ (by omega) (by omega) (by omega), s2]⟩
  · obtain ⟨k', k1, ⟨v, v1, v2, v3⟩, t, s1, s2, s3, s4⟩ := h6 d hd
    have hk4' := k1.1
    refine ⟨k', hK k1, ⟨v, v1, v2, by rw [hz _ (by omega) (by omega) (by omega), v3]⟩, t, s1, by rw [hz _ (by omega) (by omega) (by omega), s2], fun w => ?_, fun w => ?_⟩
    · have hne : d ≠ c := fun e => h0 (by rw [← e, s2, w]; rfl)
      rw [hz (206 + 10 * d) (by omega) (by omega) (by omega), hz (207 + 10 * d) (by omega) (by omega) (by omega), hz (208 + 10 * d) (by omega) (by omega) (by omega), hz (209 + 10 * d) (by omega) (by omega) (by omega), hz (210 + 10 * d) (by omega) (by omega) (by omega), hz (211 + 10 * d) (by omega) (by omega) (by omega)]
      exact s3 w
    · obtain ⟨⟨a', a1, a2, a3⟩, b⟩ := s4 w
      have ha' : a' < 6 := by obtain ⟨s, q0, q1, q2⟩ := a1; omega
      refine ⟨?_, ?_⟩
      · by_cases q : d = c
        · subst q
          have ek : k' = k := (nI_eq (by omega) (by omega)).mp (k1.2.symm.trans hk.2)
          subst ek
          have ha6 : a < 6 := by obtain ⟨s, q0, q1, q2⟩ := ha; omega
          exact ⟨a, hA hk4 ha, g4, by rw [g5, hz (10 + 28 * k' + 4 * a) (by omega) (by omega) (by omega)]⟩
        · exact ⟨a', hA k1.1 a1, by rw [hz _ (by omega) (by omega) (by omega), a2], by rw [hz (207 + 10 * d) (by omega) (by omega) (by omega), hz (10 + 28 * k' + 4 * a') (by omega) (by omega) (by omega), a3]⟩
      · rw [hz (211 + 10 * d) (by omega) (by omega) (by omega), hz (210 + 10 * d) (by omega) (by omega) (by omega)]
        rcases b with b | ⟨p, s9, b1, b2, b3, b4, b5, b6⟩
        · exact Or.inl b
        · exact Or.inr ⟨p, s9, b1, b2, by rw [hz _ (by omega) (by omega) (by omega), b3], b4, hK b5, b6⟩
  · obtain ⟨s9, s1, s2, s3, k', k1, a', a1, a2⟩ := h7 p hp
    exact ⟨s9, s1, by rw [hz _ (by omega) (by omega) (by omega), s2], by rw [hz _ (by omega) (by omega) (by omega)]; exact s3, k', hK k1, a', hA k1.1 a1, by rw [hz _ (by omega) (by omega) (by omega), a2]⟩
  · unfold LtOK
    rw [hz (118 + i) (by omega) (by omega) (by omega)]
    rcases h8 i hi with w | ⟨p, s9, b1, b2, b3, b4, b5⟩
    · exact Or.inl w
    · exact Or.inr ⟨p, s9, b1, b2, by rw [hz _ (by omega) (by omega) (by omega), b3], b4, by rw [hz _ (by omega) (by omega) (by omega), b5]⟩
theorem InvNP.raise {z : ZS} {N P p s k a : Nat} (h : InvNP z N P) (hp : p < P) (es : z (132 + 3 * p) = nI s) (hs : s < 24) (hk : kd z s k) (ha : hasA z k a) : InvNP (upd z (130 + 3 * p) (nI a)) N P := by
  have hP := h.P24
  have hz : ∀ i, i ≠ 130 + 3 * p → upd z (130 + 3 * p) (nI a) i = z i := fun i hi => pk_un hi
  have hv : upd z (130 + 3 * p) (nI a) (130 + 3 * p) = nI a := pk_us
  obtain ⟨h1, h2, ⟨mo, o1, o2⟩, h3, h4, h5, h6, h7, h8⟩ := h
  have hA : ∀ {k a' : Nat}, k < 4 → hasA z k a' → hasA (upd z (130 + 3 * p) (nI a)) k a' := fun hk q => by
    obtain ⟨t, t0, t1, t2⟩ := q
    exact ⟨t, t0, by rw [hz _ (by omega), t1], t2⟩
  have hK : ∀ {d k : Nat}, kd z d k → kd (upd z (130 + 3 * p) (nI a)) d k := fun q => ⟨q.1, by rw [hz _ (by omega), q.2]⟩
  refine ⟨h1, by rw [hz _ (by omega), h2], ⟨mo, o1, by rw [hz _ (by omega), o2]⟩, by rw [hz _ (by omega), h3], ?_, fun k' hk' => ?_, fun d hd => ?_, fun p' hp' => ?_, fun i hi => ?_⟩
  · rw [cnt_congr (g := fun c => z (205 + 10 * c) ≠ 0) N (fun d hd => by rw [hz _ (by omega)])]
    exact h4
  · obtain ⟨s, s1, s2⟩ := h5 k' hk'
    exact ⟨s, s1, by rw [hz _ (by omega), s2]⟩
  · obtain ⟨k', k1, ⟨v, v1, v2, v3⟩, t, s1, s2, s3, s4⟩ := h6 d hd
    have hk4' := k1.1
    refine ⟨k', hK k1, ⟨v, v1, v2, by rw [hz _ (by omega), v3]⟩, t, s1, by rw [hz _ (by omega), s2], fun w => ?_, fun w => ?_⟩
    · rw [hz (206 + 10 * d) (by omega), hz (207 + 10 * d) (by omega), hz (208 + 10 * d) (by omega), hz (209 + 10 * d) (by omega), hz (210 + 10 * d) (by omega), hz (211 + 10 * d) (by omega)]
      exact s3 w
    · obtain ⟨⟨a', a1, a2, a3⟩, b⟩ := s4 w
      have ha' : a' < 6 := by obtain ⟨s, q0, q1, q2⟩ := a1; omega
      refine ⟨⟨a', hA k1.1 a1, by rw [hz _ (by omega), a2], by rw [hz (207 + 10 * d) (by omega), hz (10 + 28 * k' + 4 * a') (by omega), a3]⟩, ?_⟩
      rw [hz (211 + 10 * d) (by omega), hz (210 + 10 * d) (by omega)]
      rcases b with b | ⟨p, s9, b1, b2, b3, b4, b5, b6⟩
      · exact Or.inl b
      · exact Or.inr ⟨p, s9, b1, b2, by rw [hz _ (by omega), b3], b4, hK b5, b6⟩
  · obtain ⟨s9, s1, s2, s3, k', k1, a', a1, a2⟩ := h7 p' hp'
    by_cases q : p' = p
    · subst q
      exact ⟨s9, s1, by rw [hz _ (by omega), s2], by rw [hz _ (by omega)]; exact s3, k, hK (by rwa [← (nI_eq (by omega) (by omega)).mp (s2.symm.trans es)] at hk), a, hA hk.1 ha, hv⟩
    · exact ⟨s9, s1, by rw [hz _ (by omega), s2], by rw [hz _ (by omega)]; exact s3, k', hK k1, a', hA k1.1 a1, by rw [hz _ (by omega), a2]⟩
  · unfold LtOK
    rw [hz (118 + i) (by omega)]
    rcases h8 i hi with w | ⟨p, s9, b1, b2, b3, b4, b5⟩
    · exact Or.inl w
    · exact Or.inr ⟨p, s9, b1, b2, by rw [hz _ (by omega), b3], b4, by rw [hz _ (by omega), b5]⟩
/-- a complaint that follows a precedent -/
theorem InvNP.fol {z : ZS} {N P c p : Nat} (h : InvNP z N P) (hc : c < N) (hp : p < 24) (e : z (210 + 10 * c) = nI p) : p < P ∧ z (205 + 10 * c) ≠ 0 ∧ ∃ k s a, kd z c k ∧ z (132 + 3 * p) = nI s ∧ s < 24 ∧ kd z s k ∧ z (130 + 3 * p) = nI a ∧ hasA z k a := by
  have hP := h.P24
  obtain ⟨k, k1, -, t, s1, s2, s3, s4⟩ := h.2.2.2.2.2.2.1 c hc
  have np1 := fun w : nI p = -1 => nI_pos (n := p) (by omega) (by rw [w]; decide)
  have t0 : t ≠ 0 := fun w => np1 (e.symm.trans (s3 w).2.2.2.2.1)
  rcases (s4 t0).2 with ⟨-, b⟩ | ⟨p', s, b1, b2, b3, b4, b5, b6⟩
  · exact absurd (e.symm.trans b) np1
  · have ep : p = p' := (nI_eq (by omega) (by omega)).mp (e.symm.trans b2)
    subst ep
    obtain ⟨s', q1, q2, q3, k', q4, a, q5, q6⟩ := h.2.2.2.2.2.2.2.1 p b1
    have es : s = s' := (nI_eq (by omega) (by have := h.1; omega)).mp (b3.symm.trans q2)
    subst es
    have ek : k = k' := (nI_eq (by have := b5.1; omega) (by have := q4.1; omega)).mp (b5.2.symm.trans q4.2)
    subst ek
    exact ⟨b1, by rw [s2]; exact nI_ne0 (by omega) (by omega), k, s, a, k1, b3, b4, b5, q6, q5⟩
theorem kd.uniq {z : ZS} {c k k' : Nat} (h : kd z c k) (h' : kd z c k') : k = k' := (nI_eq (by have := h.1; omega) (by have := h'.1; omega)).mp (h.2.symm.trans h'.2)
/-- one top-up, on both sides -/
theorem top_step {b : Nat} {x m : XS} (hS : Sim b x (m 1)) {N P c : Nat} (hI : InvNP (m 1) N P) (hc : c < N) : ∃ w, f_X5_waitsFor m (nI c) = some w ∧ ((w ≤ 0 ∧ f_X3_topUp b x (nI c) = some (0, x)) ∨
    (¬ w ≤ 0 ∧ ∃ k p a, kd (m 1) c k ∧ p < P ∧ m 1 (210 + 10 * c) = nI p ∧ m 1 (130 + 3 * p) = nI a ∧ hasA (m 1) k a ∧ m 1 (205 + 10 * c) ≠ 0 ∧ w = m 1 (10 + 28 * k + 4 * a) - m 1 (207 + 10 * c) ∧ ((m 1 (7 + 28 * k) - m 1 (8 + 28 * k) < w ∧ f_X3_topUp b x (nI c) = some (0, x)) ∨ (¬ m 1 (7 + 28 * k) - m 1 (8 + 28 * k) < w ∧ ∃ x1, f_X3_hand b x (nI c) (nI a) = some x1 ∧ f_X3_topUp b x (nI c) = some (w, x1))))) := by
  have hN := hI.1
  have eN := hI.2.1
  have eP := hI.2.2.2.1
  have hP := hI.P24
  have hwM : ∀ y : Int32, m 1 (210 + 10 * c) = y → f_X5_waitsFor m (nI c) = if m 1 (205 + 10 * c) = 0 then some 0 else (if y = -1 then some 0 else ((aget 442 (m 1) (nI (202 + 10 * c))).bind fun v43 =>
        (aget 442 (m 1) (130 + (3 * y))).bind fun v55 =>
        (f_X5_cost m v43 v55).bind fun v56 =>
        (aget 442 (m 1) (nI (202 + 10 * c) + 5)).bind fun v69 =>
        if (v56 - v69 ≤ 0 : Prop) then
          some 0
        else
          some (v56 - v69))) := by
    intro y hy
    unfold f_X5_waitsFor
    rw [f_of, sb, ag' (e := nI (202 + 10 * c) + 8) (n := 442) (210 + 10 * c) (nI_p _ 8 (by omega)) (by omega), sb, sb, ag' (e := nI (202 + 10 * c) + 3) (n := 442) (205 + 10 * c) (nI_p _ 3 (by omega)) (by omega), sb, hy]
    rfl
  obtain ⟨k, k1, -, t, s1, s2, s3, s4⟩ := hI.2.2.2.2.2.2.1 c hc
  have hno : m 1 (210 + 10 * c) = -1 → ∃ w, f_X5_waitsFor m (nI c) = some w ∧ w ≤ 0 ∧ f_X3_topUp b x (nI c) = some (0, x) := fun e => by
    refine ⟨0, ?_, Int32.le_refl _, ?_⟩
    · rw [hwM _ e, if_pos (show (-1 : Int32) = -1 from rfl)]
      split <;> rfl
    · unfold f_X3_topUp f_X3_owedTo
      rw [f_folOf hS hN eN hc, sb, e, (f_hasP hS hP eP (-1)).1 (Or.inl (by decide)), sb, if_pos rfl, sb, if_pos rfl]
  by_cases t0 : t = 0
  · obtain ⟨w, w1, w2, w3⟩ := hno (s3 t0).2.2.2.2.1
    exact ⟨w, w1, Or.inl ⟨w2, w3⟩⟩
  · rcases (s4 t0).2 with ⟨-, b⟩ | ⟨p, s, b1, b2, b3, b4, b5, b6⟩
    · obtain ⟨w, w1, w2, w3⟩ := hno b
      exact ⟨w, w1, Or.inl ⟨w2, w3⟩⟩
    · obtain ⟨-, h0, k', s', a, c1, c2, c3, c4, c5, c6⟩ := hI.fol hc (by omega) b2
      have ek := c1.uniq k1
      subst ek
      have hk4 := c1.1
      have ha6 : a < 6 := by obtain ⟨s, q0, q1, q2⟩ := c6; omega
      have hM := hwM _ b2
      rw [if_neg h0, if_neg (show ¬ nI p = -1 from fun w => nI_pos (n := p) (by omega) (by rw [w]; decide)), ag (by omega), sb, c1.2, e_pr, ag (by omega), sb, c5, f_cost5 hk4 ha6, sb, ag' (e := nI (202 + 10 * c) + 5) (n := 442) (207 + 10 * c) (nI_p _ 5 (by omega)) (by omega), sb] at hM
      have hO : f_X3_owedTo b x (nI c) = some (if 0 < m 1 (10 + 28 * k' + 4 * a) - m 1 (207 + 10 * c) then m 1 (10 + 28 * k' + 4 * a) - m 1 (207 + 10 * c) else 0) := by
        unfold f_X3_owedTo
        rw [f_folOf hS hN eN hc, sb, b2, (f_hasP hS hP eP (nI p)).2 p b1 rfl, sb, if_neg (show ¬ (1 : Int32) = 0 by decide), f_kindOf hS hN eN hc, sb, c1.2, f_amP hS hP eP b1, sb, c5, f_costX hS hk4 c6, sb, f_gotOf hS hN eN hc, sb, sb]
      by_cases q : m 1 (10 + 28 * k' + 4 * a) - m 1 (207 + 10 * c) ≤ 0
      · rw [if_pos q] at hM
        refine ⟨0, hM, Or.inl ⟨Int32.le_refl _, ?_⟩⟩
        unfold f_X3_topUp
        rw [hO, if_neg (fun w => Int32.lt_irrefl (Int32.lt_of_lt_of_le w q)), sb, if_pos rfl]
      · rw [if_neg q] at hM
        refine ⟨_, hM, Or.inr ⟨q, k', p, a, c1, b1, b2, c5, c6, h0, rfl, ?_⟩⟩
        have q' := Int32.not_le.mp q
        unfold f_X3_topUp
        rw [hO, if_pos q', sb, if_neg (fun w => Int32.lt_irrefl (by rw [w] at q'; exact q')), f_kindOf hS hN eN hc, sb, c1.2, f_leftX hS hk4, sb]
        by_cases l : m 1 (7 + 28 * k') - m 1 (8 + 28 * k') < m 1 (10 + 28 * k' + 4 * a) - m 1 (207 + 10 * c)
        · rw [if_neg (fun w => Int32.lt_irrefl (Int32.lt_of_lt_of_le l w))]
          exact Or.inl ⟨l, rfl⟩
        · rw [if_pos (Int32.not_lt.mp l), f_folOf hS hN eN hc, sb, b2, f_amP hS hP eP b1, sb, c5, f_handX hS hN eN hc c1 c6, sb]
          exact Or.inr ⟨l, _, rfl, rfl⟩
