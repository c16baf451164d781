/-! ===== deciding ===== -/
theorem f_handX {b : Nat} {x m : XS} (hS : Sim b x (m 1)) {N c k a : Nat} (hN : N ≤ 24) (eN : m 1 0 = nI N) (hc : c < N) (hk : kd (m 1) c k) (ha : hasA (m 1) k a) : f_X3_hand b x (nI c) (nI a) = some (ux (ux (ux (x) (b + 25) k (m 1 (8 + 28 * k) + (m 1 (10 + 28 * k + 4 * a) - m 1 (207 + 10 * c)))) (b + 12) c (nI a)) (b + 13) c (m 1 (10 + 28 * k + 4 * a))) := by
  have hk4 := hk.1
  have hc24 : c < 24 := by omega
  have F := (FS.rf hS).put (show zx 25 k = some (8 + 28 * k) from zx_spent hk4) (m 1 (8 + 28 * k) + (m 1 (10 + 28 * k + 4 * a) - m 1 (207 + 10 * c)))
  have eN1 : (ux m 1 (8 + 28 * k) (m 1 (8 + 28 * k) + (m 1 (10 + 28 * k + 4 * a) - m 1 (207 + 10 * c)))) 1 0 = nI N := by rw [ux_j (by omega)]; exact eN
  unfold f_X3_hand
  rw [f_kindOf hS hN eN hc, sb, hk.2, f_costX hS hk4 ha, sb, f_kind1 hk4, sb, if_neg (show ¬ (1 : Int32) = 0 by decide), ag hk4, sb, f_gotOf hS hN eN hc, sb, asn hk4, sb, sm_spent hS hk4]
  unfold f_X3_hand_47 f_X0_give
  rw [(f_hasC F.1 hN eN1 (nI c)).2 c hc rfl, sb, if_neg (show ¬ (1 : Int32) = 0 by decide), asn hc24, sb, asn hc24, sb, sb]
theorem f_giveM {m : XS} {c k a : Nat} (hc : c < 24) (hk : kd (m 1) c k) (ha : hasA (m 1) k a) : f_X5_give m (nI c) (nI a) = some (ux (ux (ux (m) 1 (8 + 28 * k) (m 1 (8 + 28 * k) + (m 1 (10 + 28 * k + 4 * a) - m 1 (207 + 10 * c)))) 1 (206 + 10 * c) (nI a)) 1 (207 + 10 * c) (m 1 (10 + 28 * k + 4 * a))) := by
  have hk4 := hk.1
  have ha6 : a < 6 := by obtain ⟨s, q0, q1, q2⟩ := ha; omega
  unfold f_X5_give
  rw [f_of, sb, ag (by omega), sb, hk.2, f_cost5 hk4 ha6, sb, sb, ag' (e := nI (202 + 10 * c) + 5) (n := 442) (207 + 10 * c) (nI_p _ 5 (by omega)) (by omega), sb, sb, sb, asn' (e := nI (202 + 10 * c) + 4) (206 + 10 * c) (nI_p _ 4 (by omega)) (by omega), sb, sb, ag' (e := nI (202 + 10 * c) + 5) (n := 442) (207 + 10 * c) (nI_p _ 5 (by omega)) (by omega), sb, asn' (e := nI (202 + 10 * c) + 5) (207 + 10 * c) (nI_p _ 5 (by omega)) (by omega), sb, ux_j (show 207 + 10 * c ≠ 206 + 10 * c by omega), i_asc, f_at, sb, ag' (e := nI (6 + 28 * k) + 2) (n := 442) (8 + 28 * k) (nI_p _ 2 (by omega)) (by omega), sb, asn' (e := nI (6 + 28 * k) + 2) (8 + 28 * k) (nI_p _ 2 (by omega)) (by omega), sb, ux_j (show 8 + 28 * k ≠ 207 + 10 * c by omega), ux_j (show 8 + 28 * k ≠ 206 + 10 * c by omega), ux_swap (i := 207 + 10 * c) (j := 8 + 28 * k) (by omega), ux_swap (i := 206 + 10 * c) (j := 8 + 28 * k) (by omega)]
theorem fs_hand {b : Nat} {x m : XS} (hS : Sim b x (m 1)) {c k a : Nat} (hc24 : c < 24) (hk4 : k < 4) : FS b x m (ux (ux (ux (x) (b + 25) k (m 1 (8 + 28 * k) + (m 1 (10 + 28 * k + 4 * a) - m 1 (207 + 10 * c)))) (b + 12) c (nI a)) (b + 13) c (m 1 (10 + 28 * k + 4 * a))) (ux (ux (ux (m) 1 (8 + 28 * k) (m 1 (8 + 28 * k) + (m 1 (10 + 28 * k + 4 * a) - m 1 (207 + 10 * c)))) 1 (206 + 10 * c) (nI a)) 1 (207 + 10 * c) (m 1 (10 + 28 * k + 4 * a))) :=
  (((FS.rf hS).put (show zx 25 k = some (8 + 28 * k) from zx_spent hk4) _).put (show zx 12 c = some (206 + 10 * c) from zc (j := 4) (by decide) hc24 (by omega)) _).put (show zx 13 c = some (207 + 10 * c) from zc (j := 5) (by decide) hc24 (by omega)) _
theorem cnt_up {f g : Nat → Prop} [DecidablePred f] [DecidablePred g] {c : Nat} (h0 : ¬ f c) (h1 : g c) (h : ∀ d, d ≠ c → (f d ↔ g d)) : ∀ n, c < n → cnt g n = cnt f n + 1 := by
  intro n
  induction n with
  | zero => intro q; omega
  | succ n ih =>
    intro q
    show cnt g n + (if g n then 1 else 0) = cnt f n + (if f n then 1 else 0) + 1
    by_cases e : n = c
    · subst e
      rw [if_pos h1, if_neg h0, cnt_congr (f := g) (g := f) n (fun d hd => (h d (by omega)).symm)]
    · rw [ih (by omega)]
      by_cases hf : f n
      · rw [if_pos hf, if_pos ((h n e).mp hf)]
      · rw [if_neg hf, if_neg (fun w => hf ((h n e).mpr w))]
theorem cnt_lt {f : Nat → Prop} [DecidablePred f] {c : Nat} (h0 : ¬ f c) : ∀ n, c < n → cnt f n < n := by
  intro n
  induction n with
  | zero => intro q; omega
  | succ n ih =>
    intro q
    show cnt f n + (if f n then 1 else 0) < n + 1
    by_cases e : n = c
    · subst e
      rw [if_neg h0]
      have := cnt_le (f := f) n
      omega
    · have := ih (by omega)
      split <;> omega
theorem InvNP.Plt {z : ZS} {N P c : Nat} (h : InvNP z N P) (hc : c < N) (h0 : z (205 + 10 * c) = 0) : P < 24 :=
  Nat.lt_of_le_of_lt h.2.2.2.2.1 (Nat.lt_of_lt_of_le (cnt_lt (f := fun c => z (205 + 10 * c) ≠ 0) (c := c) (fun q => q h0) N hc) h.1)
theorem InvNP.decide {z z1 : ZS} {N P P1 c k a : Nat} (h : InvNP z N P) (hc : c < N) (h0 : z (205 + 10 * c) = 0) (hk : kd z c k) (ha : hasA z k a) (hP1 : P ≤ P1) (hP2 : P1 ≤ P + 1) (e5 : z1 5 = nI P1) (g3 : z1 (205 + 10 * c) = nI 1) (g4 : z1 (206 + 10 * c) = nI a) (g5 : z1 (207 + 10 * c) = z (10 + 28 * k + 4 * a))
    (hb : (z1 (211 + 10 * c) = 3 ∧ z1 (210 + 10 * c) = -1) ∨ ∃ p s, p < P1 ∧ z1 (210 + 10 * c) = nI p ∧ z1 (132 + 3 * p) = nI s ∧ s < 24 ∧ kd z s k ∧ z1 (211 + 10 * c) = if s = c then 1 else 2)
    (hn : ∀ p, p < P1 → P ≤ p → z1 (132 + 3 * p) = nI c ∧ z1 (130 + 3 * p) = nI a)
    (hl : ∀ i, i < 12 → z1 (118 + i) = z (118 + i) ∨ (P < P1 ∧ z1 (118 + i) = nI P ∧ i / 3 = k))
    (hz : ∀ i, i ≠ 5 → ¬ (118 ≤ i ∧ i < 130) → ¬ (130 + 3 * P ≤ i ∧ i < 130 + 3 * P1) → ¬ (205 + 10 * c ≤ i ∧ i ≤ 211 + 10 * c) → i ≠ 8 + 28 * k → z1 i = z i) : InvNP z1 N P1 := by
  have hPl := h.Plt hc h0
  have hP := h.P24
  obtain ⟨h1, h2, ⟨mo, o1, o2⟩, h3, h4, h5, h6, h7, h8⟩ := h
  have hk4 := hk.1
  have hA : ∀ {k a : Nat}, k < 4 → hasA z k a → hasA z1 k a := fun hk q => by
    obtain ⟨t, t0, t1, t2⟩ := q
    exact ⟨t, t0, by rw [hz _ (by omega) (by omega) (by omega) (by omega) (by omega), t1], t2⟩
  have hK : ∀ {d k : Nat}, kd z d k → kd z1 d k := fun q => ⟨q.1, by rw [hz _ (by omega) (by omega) (by omega) (by omega) (by omega), q.2]⟩
  have hset : ∀ p, p < P → z1 (132 + 3 * p) = z (132 + 3 * p) := fun p hp => hz _ (by omega) (by omega) (by omega) (by omega) (by omega)
  have g3' : z1 (205 + 10 * c) ≠ 0 := by rw [g3]; decide
  have hst : ∀ d, d ≠ c → z1 (205 + 10 * d) = z (205 + 10 * d) := fun d hd => hz _ (by omega) (by omega) (by omega) (by omega) (by omega)
  refine ⟨h1, by rw [hz _ (by omega) (by omega) (by omega) (by omega) (by omega), h2], ⟨mo, o1, by rw [hz _ (by omega) (by omega) (by omega) (by omega) (by omega), o2]⟩, e5, ?_, fun k' hk' => ?_, fun d hd => ?_, fun p hp => ?_, fun i hi => ?_⟩
  · rw [cnt_up (f := fun d => z (205 + 10 * d) ≠ 0) (g := fun d => z1 (205 + 10 * d) ≠ 0) (c := c) (fun q => q h0) g3' (fun d hd => by rw [hst d hd]) N hc]
    omega
  · obtain ⟨s, s1, s2⟩ := h5 k' hk'
    exact ⟨s, s1, by rw [hz _ (by omega) (by omega) (by omega) (by omega) (by omega), s2]⟩
  · obtain ⟨k', k1, ⟨v, v1, v2, v3⟩, t, s1, s2, s3, s4⟩ := h6 d hd
    by_cases q : d = c
    · subst q
      have ek : k' = k := (nI_eq (by have := k1.1; omega) (by omega)).mp (k1.2.symm.trans hk.2)
      subst ek
      have ha6 : a < 6 := by obtain ⟨s, q0, q1, q2⟩ := ha; omega
      refine ⟨k', hK k1, ⟨v, v1, v2, by rw [hz _ (by omega) (by omega) (by omega) (by omega) (by omega), v3]⟩, 1, by omega, g3, fun w => absurd w (by decide), fun _ => ⟨⟨a, hA hk4 ha, g4, ?_⟩, ?_⟩⟩
      · rw [g5, hz (10 + 28 * k' + 4 * a) (by omega) (by omega) (by omega) (by omega) (by omega)]
      · rcases hb with hb | ⟨p, s, b1, b2, b3, b4, b5, b6⟩
        · exact Or.inl hb
        · exact Or.inr ⟨p, s, b1, b2, b3, b4, hK b5, b6⟩
    · refine ⟨k', hK k1, ⟨v, v1, v2, by rw [hz _ (by omega) (by omega) (by omega) (by omega) (by omega), v3]⟩, t, s1, by rw [hst d q, s2], fun w => ?_, fun w => ?_⟩
      · rw [hz (206 + 10 * d) (by omega) (by omega) (by omega) (by omega) (by omega), hz (207 + 10 * d) (by omega) (by omega) (by omega) (by omega) (by omega), hz (208 + 10 * d) (by omega) (by omega) (by omega) (by omega) (by omega), hz (209 + 10 * d) (by omega) (by omega) (by omega) (by omega) (by omega), hz (210 + 10 * d) (by omega) (by omega) (by omega) (by omega) (by omega), hz (211 + 10 * d) (by omega) (by omega) (by omega) (by omega) (by omega)]
        exact s3 w
      · obtain ⟨⟨a', a1, a2, a3⟩, b⟩ := s4 w
        have ha' : a' < 6 := by obtain ⟨s, q0, q1, q2⟩ := a1; omega
        have hk4' := k1.1
        refine ⟨⟨a', hA k1.1 a1, by rw [hz _ (by omega) (by omega) (by omega) (by omega) (by omega), a2], by rw [hz (207 + 10 * d) (by omega) (by omega) (by omega) (by omega) (by omega), hz (10 + 28 * k' + 4 * a') (by omega) (by omega) (by omega) (by omega) (by omega), a3]⟩, ?_⟩
        rw [hz (211 + 10 * d) (by omega) (by omega) (by omega) (by omega) (by omega), hz (210 + 10 * d) (by omega) (by omega) (by omega) (by omega) (by omega)]
        rcases b with b | ⟨p, s9, b1, b2, b3, b4, b5, b6⟩
        · exact Or.inl b
        · exact Or.inr ⟨p, s9, by omega, b2, by rw [hset p b1, b3], b4, hK b5, b6⟩
  · by_cases q : p < P
    · obtain ⟨s9, s1, s2, s3, k', k1, a', a1, a2⟩ := h7 p q
      have hne : s9 ≠ c := fun w => s3 (by rw [w]; exact h0)
      exact ⟨s9, s1, by rw [hset p q, s2], by rw [hst s9 hne]; exact s3, k', hK k1, a', hA k1.1 a1, by rw [hz _ (by omega) (by omega) (by omega) (by omega) (by omega), a2]⟩
    · obtain ⟨n1, n2⟩ := hn p hp (by omega)
      exact ⟨c, hc, n1, g3', k, hK hk, a, hA hk4 ha, n2⟩
  · rcases hl i hi with q | ⟨q1, q2, q3⟩
    · unfold LtOK
      rw [q]
      rcases h8 i hi with w | ⟨p, s9, b1, b2, b3, b4, b5⟩
      · exact Or.inl w
      · exact Or.inr ⟨p, s9, by omega, b2, by rw [hset p b1, b3], b4, by rw [hz _ (by omega) (by omega) (by omega) (by omega) (by omega), b5]⟩
    · exact Or.inr ⟨P, c, q1, q2, (hn P q1 (Nat.le_refl _)).1, by omega, by rw [q3]; exact (hK hk).2⟩
theorem fs_new {b : Nat} {x m : XS} (hS : Sim b x (m 1)) {P c k a v : Nat} (hc24 : c < 24) (hk4 : k < 4) (hP24 : P < 24) (v2 : v ≤ 9) : FS b x m (ux (ux (ux (ux (ux (ux (ux (ux (ux (ux (ux (ux (x) (b + 25) k (m 1 (8 + 28 * k) + (m 1 (10 + 28 * k + 4 * a) - m 1 (207 + 10 * c)))) (b + 12) c (nI a)) (b + 13) c (m 1 (10 + 28 * k + 4 * a))) (b + 18) P (nI a)) (b + 19) P (m 1 1)) (b + 20) P (nI c)) (b + 21) (3 * k + (v - 1) / 3) (nI P)) (b + 17) 0 (nI (P + 1))) (b + 11) c (1)) (b + 15) c (m 1 1)) (b + 16) c (nI P)) (b + 14) c (0)) (ux (ux (ux (ux (ux (ux (ux (ux (ux (ux (ux (ux (ux (m) 1 (8 + 28 * k) (m 1 (8 + 28 * k) + (m 1 (10 + 28 * k + 4 * a) - m 1 (207 + 10 * c)))) 1 (206 + 10 * c) (nI a)) 1 (207 + 10 * c) (m 1 (10 + 28 * k + 4 * a))) 1 (130 + 3 * P) (nI a)) 1 (130 + 3 * P + 1) (m 1 1)) 1 (130 + 3 * P + 2) (nI c)) 1 (118 + (3 * k + (v - 1) / 3)) (nI P)) 1 (5) (nI (P + 1))) 1 (205 + 10 * c) (1)) 1 (209 + 10 * c) (m 1 1)) 1 (210 + 10 * c) (nI P)) 1 (208 + 10 * c) (0)) 1 (211 + 10 * c) (1)) :=
  (((((((((((((FS.rf hS).put (show zx 25 k = some (8 + 28 * k) from zx_spent hk4) _).put (show zx 12 c = some (206 + 10 * c) from zc (j := 4) (by decide) hc24 (by omega)) _).put (show zx 13 c = some (207 + 10 * c) from zc (j := 5) (by decide) hc24 (by omega)) _).put (show zx 18 P = some (130 + 3 * P) from zx_pr (j := 0) (by decide) hP24) _).put (show zx 19 P = some (130 + 3 * P + 1) from zx_pr (j := 1) (by decide) hP24) _).put (show zx 20 P = some (130 + 3 * P + 2) from zx_pr (j := 2) (by decide) hP24) _).put (show zx 21 (3 * k + (v - 1) / 3) = some (118 + (3 * k + (v - 1) / 3)) from zx_lat (by omega)) _).put (show zx 17 0 = some 5 from rfl) _).put (show zx 11 c = some (205 + 10 * c) from zc (j := 3) (by decide) hc24 (by omega)) _).put (show zx 15 c = some (209 + 10 * c) from zc (j := 7) (by decide) hc24 (by omega)) _).put (show zx 16 c = some (210 + 10 * c) from zc (j := 8) (by decide) hc24 (by omega)) _).put (show zx 14 c = some (208 + 10 * c) from zc (j := 6) (by decide) hc24 (by omega)) _).how (i := 211 + 10 * c) (by omega) 1
theorem fs_newA {b : Nat} {x m : XS} (hS : Sim b x (m 1)) {P c k a v : Nat} (hc24 : c < 24) (hk4 : k < 4) (hP24 : P < 24) (v2 : v ≤ 9) : FS b x m (ux (ux (ux (ux (ux (ux (ux (ux (x) (b + 25) k (m 1 (8 + 28 * k) + (m 1 (10 + 28 * k + 4 * a) - m 1 (207 + 10 * c)))) (b + 12) c (nI a)) (b + 13) c (m 1 (10 + 28 * k + 4 * a))) (b + 18) P (nI a)) (b + 19) P (m 1 1)) (b + 20) P (nI c)) (b + 21) (3 * k + (v - 1) / 3) (nI P)) (b + 17) 0 (nI (P + 1))) (ux (ux (ux (ux (ux (ux (ux (ux (m) 1 (8 + 28 * k) (m 1 (8 + 28 * k) + (m 1 (10 + 28 * k + 4 * a) - m 1 (207 + 10 * c)))) 1 (206 + 10 * c) (nI a)) 1 (207 + 10 * c) (m 1 (10 + 28 * k + 4 * a))) 1 (130 + 3 * P) (nI a)) 1 (130 + 3 * P + 1) (m 1 1)) 1 (130 + 3 * P + 2) (nI c)) 1 (118 + (3 * k + (v - 1) / 3)) (nI P)) 1 (5) (nI (P + 1))) :=
  ((((((((FS.rf hS).put (show zx 25 k = some (8 + 28 * k) from zx_spent hk4) _).put (show zx 12 c = some (206 + 10 * c) from zc (j := 4) (by decide) hc24 (by omega)) _).put (show zx 13 c = some (207 + 10 * c) from zc (j := 5) (by decide) hc24 (by omega)) _).put (show zx 18 P = some (130 + 3 * P) from zx_pr (j := 0) (by decide) hP24) _).put (show zx 19 P = some (130 + 3 * P + 1) from zx_pr (j := 1) (by decide) hP24) _).put (show zx 20 P = some (130 + 3 * P + 2) from zx_pr (j := 2) (by decide) hP24) _).put (show zx 21 (3 * k + (v - 1) / 3) = some (118 + (3 * k + (v - 1) / 3)) from zx_lat (by omega)) _).put (show zx 17 0 = some 5 from rfl) _
theorem f_new5 {m : XS} {P c k a v : Nat} (eP : m 1 5 = nI P) (hc24 : c < 24) (hP24 : P < 24) (hk : kd (m 1) c k) (ha : hasA (m 1) k a) (h1 : 1 ≤ v) (v2 : v ≤ 9) (hv : m 1 (203 + 10 * c) = nI v) (l3 l7 : Int32) : f_X5_decide_135 m (nI c) (nI a) l3 (nI (202 + 10 * c)) l7 1 = some (1, ux (ux (ux (ux (ux (ux (ux (ux (ux (ux (ux (ux (ux (m) 1 (8 + 28 * k) (m 1 (8 + 28 * k) + (m 1 (10 + 28 * k + 4 * a) - m 1 (207 + 10 * c)))) 1 (206 + 10 * c) (nI a)) 1 (207 + 10 * c) (m 1 (10 + 28 * k + 4 * a))) 1 (130 + 3 * P) (nI a)) 1 (130 + 3 * P + 1) (m 1 1)) 1 (130 + 3 * P + 2) (nI c)) 1 (118 + (3 * k + (v - 1) / 3)) (nI P)) 1 (5) (nI (P + 1))) 1 (205 + 10 * c) (1)) 1 (209 + 10 * c) (m 1 1)) 1 (210 + 10 * c) (nI P)) 1 (208 + 10 * c) (0)) 1 (211 + 10 * c) (1)) := by
  have hk4 := hk.1
  unfold f_X5_decide_135
  rw [f_giveM hc24 hk ha, sb, asn' (e := nI (202 + 10 * c) + 3) (205 + 10 * c) (nI_p _ 3 (by omega)) (by omega), sb, if_neg (show ¬ (1 : Int32) = 3 by decide)]
  unfold f_X5_decide_173
  rw [asn' (e := nI (202 + 10 * c) + 6) (208 + 10 * c) (nI_p _ 6 (by omega)) (by omega), sb, ag' (e := 1) (n := 442) 1 rfl (by decide), sb, asn' (e := nI (202 + 10 * c) + 7) (209 + 10 * c) (nI_p _ 7 (by omega)) (by omega), sb, asn' (e := nI (202 + 10 * c) + 9) (211 + 10 * c) (nI_p _ 9 (by omega)) (by omega), sb, if_pos (show (1 : Int32) = 1 from rfl)]
  unfold f_X5_setPrecedent
  rw [ag' (e := 5) (n := 442) 5 rfl (by decide), sb]
  repeat rw [ux_j (by omega)]
  rw [eP, e_pr, asn (show 130 + 3 * P < 442 by omega), sb, ag' (e := 1) (n := 442) 1 rfl (by decide), sb, asn' (e := nI (130 + 3 * P) + 1) (130 + 3 * P + 1) (nI_p _ 1 rfl) (by omega), sb, asn' (e := nI (130 + 3 * P) + 2) (130 + 3 * P + 2) (nI_p _ 2 rfl) (by omega), sb, f_of, sb, ag (show 202 + 10 * c < 442 by omega), sb, sb, ag' (e := nI (202 + 10 * c) + 1) (n := 442) (203 + 10 * c) (nI_p _ 1 (by omega)) (by omega), sb]
  repeat rw [ux_j (by omega)]
  rw [hk.2, hv, f_group5 h1 v2, sb, asn' (e := 118 + 3 * nI k + nI ((v - 1) / 3)) (118 + (3 * k + (v - 1) / 3)) (by show nI 118 + nI 3 * nI k + nI ((v - 1) / 3) = _; rw [pk_mul, nI_add, nI_add, Nat.add_assoc]) (by omega), sb, ag' (e := 5) (n := 442) 5 rfl (by decide), sb]
  repeat rw [ux_j (by omega)]
  rw [eP, nI_1, asn' (e := 5) 5 rfl (by decide), sb, sb]
  dsimp only
  unfold f_X5_decide_238
  rw [asn' (e := nI (202 + 10 * c) + 8) (210 + 10 * c) (nI_p _ 8 (by omega)) (by omega), sb, ux_swap (i := 208 + 10 * c) (j := 209 + 10 * c) (by omega), ux_swap (i := 211 + 10 * c) (j := 130 + 3 * P) (by omega), ux_swap (i := 211 + 10 * c) (j := 130 + 3 * P + 1) (by omega), ux_swap (i := 211 + 10 * c) (j := 130 + 3 * P + 2) (by omega), ux_swap (i := 211 + 10 * c) (j := 118 + (3 * k + (v - 1) / 3)) (by omega), ux_swap (i := 211 + 10 * c) (j := 5) (by omega), ux_swap (i := 211 + 10 * c) (j := 210 + 10 * c) (by omega), ux_swap (i := 208 + 10 * c) (j := 130 + 3 * P) (by omega), ux_swap (i := 208 + 10 * c) (j := 130 + 3 * P + 1) (by omega), ux_swap (i := 208 + 10 * c) (j := 130 + 3 * P + 2) (by omega), ux_swap (i := 208 + 10 * c) (j := 118 + (3 * k + (v - 1) / 3)) (by omega), ux_swap (i := 208 + 10 * c) (j := 5) (by omega), ux_swap (i := 208 + 10 * c) (j := 210 + 10 * c) (by omega), ux_swap (i := 209 + 10 * c) (j := 130 + 3 * P) (by omega), ux_swap (i := 209 + 10 * c) (j := 130 + 3 * P + 1) (by omega), ux_swap (i := 209 + 10 * c) (j := 130 + 3 * P + 2) (by omega), ux_swap (i := 209 + 10 * c) (j := 118 + (3 * k + (v - 1) / 3)) (by omega), ux_swap (i := 209 + 10 * c) (j := 5) (by omega), ux_swap (i := 205 + 10 * c) (j := 130 + 3 * P) (by omega), ux_swap (i := 205 + 10 * c) (j := 130 + 3 * P + 1) (by omega), ux_swap (i := 205 + 10 * c) (j := 130 + 3 * P + 2) (by omega), ux_swap (i := 205 + 10 * c) (j := 118 + (3 * k + (v - 1) / 3)) (by omega), ux_swap (i := 205 + 10 * c) (j := 5) (by omega)]
theorem f_newX {b : Nat} {x m : XS} (hS : Sim b x (m 1)) {N P c k a v : Nat} (hN : N ≤ 24) (eN : m 1 0 = nI N) (eP : m 1 5 = nI P) (hc : c < N) (hP24 : P < 24) (hk : kd (m 1) c k) (ha : hasA (m 1) k a) (h1 : 1 ≤ v) (v2 : v ≤ 9) (hv : m 1 (203 + 10 * c) = nI v) (a2 : Int32) (hb : f_X3_bindingFor b x (nI c) = some (-1)) : f_X3_makeDecision b x (nI c) (nI a) a2 = some (1, ux (ux (ux (ux (ux (ux (ux (ux (ux (ux (ux (ux (x) (b + 25) k (m 1 (8 + 28 * k) + (m 1 (10 + 28 * k + 4 * a) - m 1 (207 + 10 * c)))) (b + 12) c (nI a)) (b + 13) c (m 1 (10 + 28 * k + 4 * a))) (b + 18) P (nI a)) (b + 19) P (m 1 1)) (b + 20) P (nI c)) (b + 21) (3 * k + (v - 1) / 3) (nI P)) (b + 17) 0 (nI (P + 1))) (b + 11) c (1)) (b + 15) c (m 1 1)) (b + 16) c (nI P)) (b + 14) c (0)) := by
  have hk4 := hk.1
  have hc24 : c < 24 := by omega
  have F1 := fs_hand hS hc24 hk4 (a := a)
  have F2 := fs_newA hS (a := a) hc24 hk4 hP24 v2
  have F3 := fs_new hS (a := a) hc24 hk4 hP24 v2
  unfold f_X3_makeDecision
  rw [f_kindOf hS hN eN hc, sb, hk.2, hb, sb, f_handX hS hN eN hc hk ha, sb, if_pos (show (-1 : Int32) = -1 from rfl), f_grpOf F1.1 hN (by (repeat rw [ux_j (by omega)]); exact eN) hc h1 v2 (by (repeat rw [ux_j (by omega)]); exact hv), sb]
  unfold f_X2_add
  rw [f_kind1 hk4, sb, if_neg (show ¬ (1 : Int32) = 0 by decide), f_grp1 (by omega), sb, if_neg (show ¬ (1 : Int32) = 0 by decide), sm_P F1.1, sm_month F1.1]
  repeat rw [ux_j (by omega)]
  rw [eP, if_pos (show nI P < (24 : Int32) from nI_lt (b := 24) hP24 (by decide)), sb, asn hP24, sb, asn hP24, sb, asn hP24, sb, asn' (e := nI k * 3 + nI ((v - 1) / 3)) (n := 12) (3 * k + (v - 1) / 3) (by show nI k * nI 3 + nI ((v - 1) / 3) = _; rw [pk_mul, nI_add, Nat.mul_comm k 3]) (by omega), sb, sb, nI_1, sb]
  dsimp only
  unfold f_X0_noteDecision
  rw [(f_hasC F2.1 hN (by (repeat rw [ux_j (by omega)]); exact eN) (nI c)).2 c hc rfl, sb, if_neg (show ¬ (1 : Int32) = 0 by decide), asn hc24, sb, sm_month F2.1]
  repeat rw [ux_j (by omega)]
  rw [asn hc24, sb, asn hc24, sb, asn hc24, sb, sb]
  have y0 : (ux (ux (ux (ux (ux (ux (ux (ux (ux (ux (ux (ux (ux (m) 1 (8 + 28 * k) (m 1 (8 + 28 * k) + (m 1 (10 + 28 * k + 4 * a) - m 1 (207 + 10 * c)))) 1 (206 + 10 * c) (nI a)) 1 (207 + 10 * c) (m 1 (10 + 28 * k + 4 * a))) 1 (130 + 3 * P) (nI a)) 1 (130 + 3 * P + 1) (m 1 1)) 1 (130 + 3 * P + 2) (nI c)) 1 (118 + (3 * k + (v - 1) / 3)) (nI P)) 1 (5) (nI (P + 1))) 1 (205 + 10 * c) (1)) 1 (209 + 10 * c) (m 1 1)) 1 (210 + 10 * c) (nI P)) 1 (208 + 10 * c) (0)) 1 (211 + 10 * c) (1)) 1 0 = nI N := by (repeat rw [ux_j (by omega)]); exact eN
  have y1 : (ux (ux (ux (ux (ux (ux (ux (ux (ux (ux (ux (ux (ux (m) 1 (8 + 28 * k) (m 1 (8 + 28 * k) + (m 1 (10 + 28 * k + 4 * a) - m 1 (207 + 10 * c)))) 1 (206 + 10 * c) (nI a)) 1 (207 + 10 * c) (m 1 (10 + 28 * k + 4 * a))) 1 (130 + 3 * P) (nI a)) 1 (130 + 3 * P + 1) (m 1 1)) 1 (130 + 3 * P + 2) (nI c)) 1 (118 + (3 * k + (v - 1) / 3)) (nI P)) 1 (5) (nI (P + 1))) 1 (205 + 10 * c) (1)) 1 (209 + 10 * c) (m 1 1)) 1 (210 + 10 * c) (nI P)) 1 (208 + 10 * c) (0)) 1 (211 + 10 * c) (1)) 1 (205 + 10 * c) = 1 := by (repeat rw [ux_j (by omega)]); exact ux_at
  have y2 : (ux (ux (ux (ux (ux (ux (ux (ux (ux (ux (ux (ux (ux (m) 1 (8 + 28 * k) (m 1 (8 + 28 * k) + (m 1 (10 + 28 * k + 4 * a) - m 1 (207 + 10 * c)))) 1 (206 + 10 * c) (nI a)) 1 (207 + 10 * c) (m 1 (10 + 28 * k + 4 * a))) 1 (130 + 3 * P) (nI a)) 1 (130 + 3 * P + 1) (m 1 1)) 1 (130 + 3 * P + 2) (nI c)) 1 (118 + (3 * k + (v - 1) / 3)) (nI P)) 1 (5) (nI (P + 1))) 1 (205 + 10 * c) (1)) 1 (209 + 10 * c) (m 1 1)) 1 (210 + 10 * c) (nI P)) 1 (208 + 10 * c) (0)) 1 (211 + 10 * c) (1)) 1 (210 + 10 * c) = nI P := by (repeat rw [ux_j (by omega)]); exact ux_at
  have y3 : (ux (ux (ux (ux (ux (ux (ux (ux (ux (ux (ux (ux (ux (m) 1 (8 + 28 * k) (m 1 (8 + 28 * k) + (m 1 (10 + 28 * k + 4 * a) - m 1 (207 + 10 * c)))) 1 (206 + 10 * c) (nI a)) 1 (207 + 10 * c) (m 1 (10 + 28 * k + 4 * a))) 1 (130 + 3 * P) (nI a)) 1 (130 + 3 * P + 1) (m 1 1)) 1 (130 + 3 * P + 2) (nI c)) 1 (118 + (3 * k + (v - 1) / 3)) (nI P)) 1 (5) (nI (P + 1))) 1 (205 + 10 * c) (1)) 1 (209 + 10 * c) (m 1 1)) 1 (210 + 10 * c) (nI P)) 1 (208 + 10 * c) (0)) 1 (211 + 10 * c) (1)) 1 5 = nI (P + 1) := by (repeat rw [ux_j (by omega)]); exact ux_at
  have y4 : (ux (ux (ux (ux (ux (ux (ux (ux (ux (ux (ux (ux (ux (m) 1 (8 + 28 * k) (m 1 (8 + 28 * k) + (m 1 (10 + 28 * k + 4 * a) - m 1 (207 + 10 * c)))) 1 (206 + 10 * c) (nI a)) 1 (207 + 10 * c) (m 1 (10 + 28 * k + 4 * a))) 1 (130 + 3 * P) (nI a)) 1 (130 + 3 * P + 1) (m 1 1)) 1 (130 + 3 * P + 2) (nI c)) 1 (118 + (3 * k + (v - 1) / 3)) (nI P)) 1 (5) (nI (P + 1))) 1 (205 + 10 * c) (1)) 1 (209 + 10 * c) (m 1 1)) 1 (210 + 10 * c) (nI P)) 1 (208 + 10 * c) (0)) 1 (211 + 10 * c) (1)) 1 (132 + 3 * P) = nI c := by rw [show 132 + 3 * P = 130 + 3 * P + 2 by omega]; (repeat rw [ux_j (by omega)]); exact ux_at
  have w1 := (f_stageOf F3.1 hN y0 hc).trans (congrArg some y1)
  have w2 := (f_folOf F3.1 hN y0 hc).trans (congrArg some y2)
  have w3 := (f_setP F3.1 (by omega) y3 (Nat.lt_succ_self P)).trans (congrArg some y4)
  unfold f_X3_makeDecision_117 f_X3_tieOf
  rw [w1, sb, if_neg (show ¬ (1 : Int32) = 0 by decide), w2, sb, if_neg (show ¬ nI P = -1 from fun w => nI_pos (n := P) (by omega) (by rw [w]; decide)), w3, sb, if_pos (show nI c = nI c from rfl), sb]

theorem fs_old {b : Nat} {x m : XS} (hS : Sim b x (m 1)) {c k a : Nat} {h f r : Int32} (hc24 : c < 24) (hk4 : k < 4) : FS b x m (ux (ux (ux (ux (ux (ux (ux (x) (b + 25) k (m 1 (8 + 28 * k) + (m 1 (10 + 28 * k + 4 * a) - m 1 (207 + 10 * c)))) (b + 12) c (nI a)) (b + 13) c (m 1 (10 + 28 * k + 4 * a))) (b + 11) c (1)) (b + 15) c (m 1 1)) (b + 16) c (f)) (b + 14) c (r)) (ux (ux (ux (ux (ux (ux (ux (ux (m) 1 (8 + 28 * k) (m 1 (8 + 28 * k) + (m 1 (10 + 28 * k + 4 * a) - m 1 (207 + 10 * c)))) 1 (206 + 10 * c) (nI a)) 1 (207 + 10 * c) (m 1 (10 + 28 * k + 4 * a))) 1 (205 + 10 * c) (1)) 1 (209 + 10 * c) (m 1 1)) 1 (210 + 10 * c) (f)) 1 (208 + 10 * c) (r)) 1 (211 + 10 * c) (h)) :=
  ((((((((FS.rf hS).put (show zx 25 k = some (8 + 28 * k) from zx_spent hk4) _).put (show zx 12 c = some (206 + 10 * c) from zc (j := 4) (by decide) hc24 (by omega)) _).put (show zx 13 c = some (207 + 10 * c) from zc (j := 5) (by decide) hc24 (by omega)) _).put (show zx 11 c = some (205 + 10 * c) from zc (j := 3) (by decide) hc24 (by omega)) _).put (show zx 15 c = some (209 + 10 * c) from zc (j := 7) (by decide) hc24 (by omega)) _).put (show zx 16 c = some (210 + 10 * c) from zc (j := 8) (by decide) hc24 (by omega)) _).put (show zx 14 c = some (208 + 10 * c) from zc (j := 6) (by decide) hc24 (by omega)) _).how (i := 211 + 10 * c) (by omega) h
theorem f_old5 {m : XS} {c k a : Nat} {h f r l3 l7 : Int32} (hc24 : c < 24) (hk : kd (m 1) c k) (ha : hasA (m 1) k a) (hh : (h = 2 ∧ f = l7 ∧ r = 0) ∨ (h = 3 ∧ f = -1 ∧ r = l3)) : f_X5_decide_135 m (nI c) (nI a) l3 (nI (202 + 10 * c)) l7 h = some (h, ux (ux (ux (ux (ux (ux (ux (ux (m) 1 (8 + 28 * k) (m 1 (8 + 28 * k) + (m 1 (10 + 28 * k + 4 * a) - m 1 (207 + 10 * c)))) 1 (206 + 10 * c) (nI a)) 1 (207 + 10 * c) (m 1 (10 + 28 * k + 4 * a))) 1 (205 + 10 * c) (1)) 1 (209 + 10 * c) (m 1 1)) 1 (210 + 10 * c) (f)) 1 (208 + 10 * c) (r)) 1 (211 + 10 * c) (h)) := by
  have hk4 := hk.1
  unfold f_X5_decide_135
  rw [f_giveM hc24 hk ha, sb, asn' (e := nI (202 + 10 * c) + 3) (205 + 10 * c) (nI_p _ 3 (by omega)) (by omega), sb]
  have key : f_X5_decide_173 (ux (ux (ux (ux (m) 1 (8 + 28 * k) (m 1 (8 + 28 * k) + (m 1 (10 + 28 * k + 4 * a) - m 1 (207 + 10 * c)))) 1 (206 + 10 * c) (nI a)) 1 (207 + 10 * c) (m 1 (10 + 28 * k + 4 * a))) 1 (205 + 10 * c) (1)) (nI c) (nI a) (nI (202 + 10 * c)) l7 h r (nI (202 + 10 * c) + 6) = some (h, ux (ux (ux (ux (ux (ux (ux (ux (m) 1 (8 + 28 * k) (m 1 (8 + 28 * k) + (m 1 (10 + 28 * k + 4 * a) - m 1 (207 + 10 * c)))) 1 (206 + 10 * c) (nI a)) 1 (207 + 10 * c) (m 1 (10 + 28 * k + 4 * a))) 1 (205 + 10 * c) (1)) 1 (209 + 10 * c) (m 1 1)) 1 (210 + 10 * c) (f)) 1 (208 + 10 * c) (r)) 1 (211 + 10 * c) (h)) := by
    unfold f_X5_decide_173
    rw [asn' (e := nI (202 + 10 * c) + 6) (208 + 10 * c) (nI_p _ 6 (by omega)) (by omega), sb, ag' (e := 1) (n := 442) 1 rfl (by decide), sb, asn' (e := nI (202 + 10 * c) + 7) (209 + 10 * c) (nI_p _ 7 (by omega)) (by omega), sb, asn' (e := nI (202 + 10 * c) + 9) (211 + 10 * c) (nI_p _ 9 (by omega)) (by omega), sb]
    repeat rw [ux_j (by omega)]
    unfold f_X5_decide_238
    rcases hh with ⟨rfl, rfl, rfl⟩ | ⟨rfl, rfl, rfl⟩
    · rw [if_neg (show ¬ (2 : Int32) = 1 by decide), if_pos (show (2 : Int32) = 2 from rfl), asn' (e := nI (202 + 10 * c) + 8) (210 + 10 * c) (nI_p _ 8 (by omega)) (by omega), sb, ux_swap (i := 208 + 10 * c) (j := 209 + 10 * c) (by omega), ux_swap (i := 211 + 10 * c) (j := 210 + 10 * c) (by omega), ux_swap (i := 208 + 10 * c) (j := 210 + 10 * c) (by omega)]
    · rw [if_neg (show ¬ (3 : Int32) = 1 by decide), if_neg (show ¬ (3 : Int32) = 2 by decide), asn' (e := nI (202 + 10 * c) + 8) (210 + 10 * c) (nI_p _ 8 (by omega)) (by omega), sb, ux_swap (i := 208 + 10 * c) (j := 209 + 10 * c) (by omega), ux_swap (i := 211 + 10 * c) (j := 210 + 10 * c) (by omega), ux_swap (i := 208 + 10 * c) (j := 210 + 10 * c) (by omega)]
  rcases hh with ⟨rfl, rfl, rfl⟩ | ⟨rfl, rfl, rfl⟩
  · rw [if_neg (show ¬ (2 : Int32) = 3 by decide), key]
  · rw [if_pos (show (3 : Int32) = 3 from rfl), key]
theorem f_oldX {b : Nat} {x m : XS} (hS : Sim b x (m 1)) {N c k a : Nat} (hN : N ≤ 24) (eN : m 1 0 = nI N) (hc : c < N) (hk : kd (m 1) c k) {f r : Int32} (h : Int32) : f_X0_noteDecision b (ux (ux (ux (x) (b + 25) k (m 1 (8 + 28 * k) + (m 1 (10 + 28 * k + 4 * a) - m 1 (207 + 10 * c)))) (b + 12) c (nI a)) (b + 13) c (m 1 (10 + 28 * k + 4 * a))) (nI c) (m 1 1) f r = some (ux (ux (ux (ux (ux (ux (ux (x) (b + 25) k (m 1 (8 + 28 * k) + (m 1 (10 + 28 * k + 4 * a) - m 1 (207 + 10 * c)))) (b + 12) c (nI a)) (b + 13) c (m 1 (10 + 28 * k + 4 * a))) (b + 11) c (1)) (b + 15) c (m 1 1)) (b + 16) c (f)) (b + 14) c (r)) := by
  have hk4 := hk.1
  have hc24 : c < 24 := by omega
  have F1 := fs_hand hS hc24 hk4 (a := a)
  unfold f_X0_noteDecision
  rw [(f_hasC F1.1 hN (by (repeat rw [ux_j (by omega)]); exact eN) (nI c)).2 c hc rfl, sb, if_neg (show ¬ (1 : Int32) = 0 by decide), asn hc24, sb, asn hc24, sb, asn hc24, sb, asn hc24, sb]
theorem f_tie2 {b : Nat} {x m : XS} (hS : Sim b x (m 1)) {N c k a p s P : Nat} (hN : N ≤ 24) (hP : P ≤ 24) (eN : m 1 0 = nI N) (eP : m 1 5 = nI P) (hc : c < N) (hk4 : k < 4) (hp : p < P) (es : m 1 (132 + 3 * p) = nI s) (hs : s < 24) (hne : s ≠ c) {r : Int32} : f_X3_tieOf b (ux (ux (ux (ux (ux (ux (ux (x) (b + 25) k (m 1 (8 + 28 * k) + (m 1 (10 + 28 * k + 4 * a) - m 1 (207 + 10 * c)))) (b + 12) c (nI a)) (b + 13) c (m 1 (10 + 28 * k + 4 * a))) (b + 11) c (1)) (b + 15) c (m 1 1)) (b + 16) c (nI p)) (b + 14) c (r)) (nI c) = some 2 := by
  have hc24 : c < 24 := by omega
  have F3 := fs_old (h := 2) (f := nI p) (r := r) hS (a := a) hc24 hk4
  have y0 : (ux (ux (ux (ux (ux (ux (ux (ux (m) 1 (8 + 28 * k) (m 1 (8 + 28 * k) + (m 1 (10 + 28 * k + 4 * a) - m 1 (207 + 10 * c)))) 1 (206 + 10 * c) (nI a)) 1 (207 + 10 * c) (m 1 (10 + 28 * k + 4 * a))) 1 (205 + 10 * c) (1)) 1 (209 + 10 * c) (m 1 1)) 1 (210 + 10 * c) (nI p)) 1 (208 + 10 * c) (r)) 1 (211 + 10 * c) (2)) 1 0 = nI N := by (repeat rw [ux_j (by omega)]); exact eN
  have y1 : (ux (ux (ux (ux (ux (ux (ux (ux (m) 1 (8 + 28 * k) (m 1 (8 + 28 * k) + (m 1 (10 + 28 * k + 4 * a) - m 1 (207 + 10 * c)))) 1 (206 + 10 * c) (nI a)) 1 (207 + 10 * c) (m 1 (10 + 28 * k + 4 * a))) 1 (205 + 10 * c) (1)) 1 (209 + 10 * c) (m 1 1)) 1 (210 + 10 * c) (nI p)) 1 (208 + 10 * c) (r)) 1 (211 + 10 * c) (2)) 1 (205 + 10 * c) = 1 := by (repeat rw [ux_j (by omega)]); exact ux_at
  have y2 : (ux (ux (ux (ux (ux (ux (ux (ux (m) 1 (8 + 28 * k) (m 1 (8 + 28 * k) + (m 1 (10 + 28 * k + 4 * a) - m 1 (207 + 10 * c)))) 1 (206 + 10 * c) (nI a)) 1 (207 + 10 * c) (m 1 (10 + 28 * k + 4 * a))) 1 (205 + 10 * c) (1)) 1 (209 + 10 * c) (m 1 1)) 1 (210 + 10 * c) (nI p)) 1 (208 + 10 * c) (r)) 1 (211 + 10 * c) (2)) 1 (210 + 10 * c) = nI p := by (repeat rw [ux_j (by omega)]); exact ux_at
  have y3 : (ux (ux (ux (ux (ux (ux (ux (ux (m) 1 (8 + 28 * k) (m 1 (8 + 28 * k) + (m 1 (10 + 28 * k + 4 * a) - m 1 (207 + 10 * c)))) 1 (206 + 10 * c) (nI a)) 1 (207 + 10 * c) (m 1 (10 + 28 * k + 4 * a))) 1 (205 + 10 * c) (1)) 1 (209 + 10 * c) (m 1 1)) 1 (210 + 10 * c) (nI p)) 1 (208 + 10 * c) (r)) 1 (211 + 10 * c) (2)) 1 5 = nI P := by (repeat rw [ux_j (by omega)]); exact eP
  have y4 : (ux (ux (ux (ux (ux (ux (ux (ux (m) 1 (8 + 28 * k) (m 1 (8 + 28 * k) + (m 1 (10 + 28 * k + 4 * a) - m 1 (207 + 10 * c)))) 1 (206 + 10 * c) (nI a)) 1 (207 + 10 * c) (m 1 (10 + 28 * k + 4 * a))) 1 (205 + 10 * c) (1)) 1 (209 + 10 * c) (m 1 1)) 1 (210 + 10 * c) (nI p)) 1 (208 + 10 * c) (r)) 1 (211 + 10 * c) (2)) 1 (132 + 3 * p) = nI s := by (repeat rw [ux_j (by omega)]); exact es
  have w1 := (f_stageOf F3.1 hN y0 hc).trans (congrArg some y1)
  have w2 := (f_folOf F3.1 hN y0 hc).trans (congrArg some y2)
  have w3 := (f_setP F3.1 hP y3 hp).trans (congrArg some y4)
  unfold f_X3_tieOf
  rw [w1, sb, if_neg (show ¬ (1 : Int32) = 0 by decide), w2, sb, if_neg (show ¬ nI p = -1 from fun w => nI_pos (n := p) (by omega) (by rw [w]; decide)), w3, sb, if_neg (fun q => hne ((nI_eq (by omega) (by omega)).mp q))]
theorem f_tie3 {b : Nat} {x m : XS} (hS : Sim b x (m 1)) {N c k a : Nat} (hN : N ≤ 24) (eN : m 1 0 = nI N) (hc : c < N) (hk4 : k < 4) {r : Int32} : f_X3_tieOf b (ux (ux (ux (ux (ux (ux (ux (x) (b + 25) k (m 1 (8 + 28 * k) + (m 1 (10 + 28 * k + 4 * a) - m 1 (207 + 10 * c)))) (b + 12) c (nI a)) (b + 13) c (m 1 (10 + 28 * k + 4 * a))) (b + 11) c (1)) (b + 15) c (m 1 1)) (b + 16) c (-1)) (b + 14) c (r)) (nI c) = some 3 := by
  have hc24 : c < 24 := by omega
  have F3 := fs_old (h := 3) (f := -1) (r := r) hS (a := a) hc24 hk4
  have y0 : (ux (ux (ux (ux (ux (ux (ux (ux (m) 1 (8 + 28 * k) (m 1 (8 + 28 * k) + (m 1 (10 + 28 * k + 4 * a) - m 1 (207 + 10 * c)))) 1 (206 + 10 * c) (nI a)) 1 (207 + 10 * c) (m 1 (10 + 28 * k + 4 * a))) 1 (205 + 10 * c) (1)) 1 (209 + 10 * c) (m 1 1)) 1 (210 + 10 * c) (-1)) 1 (208 + 10 * c) (r)) 1 (211 + 10 * c) (3)) 1 0 = nI N := by (repeat rw [ux_j (by omega)]); exact eN
  have y1 : (ux (ux (ux (ux (ux (ux (ux (ux (m) 1 (8 + 28 * k) (m 1 (8 + 28 * k) + (m 1 (10 + 28 * k + 4 * a) - m 1 (207 + 10 * c)))) 1 (206 + 10 * c) (nI a)) 1 (207 + 10 * c) (m 1 (10 + 28 * k + 4 * a))) 1 (205 + 10 * c) (1)) 1 (209 + 10 * c) (m 1 1)) 1 (210 + 10 * c) (-1)) 1 (208 + 10 * c) (r)) 1 (211 + 10 * c) (3)) 1 (205 + 10 * c) = 1 := by (repeat rw [ux_j (by omega)]); exact ux_at
  have y2 : (ux (ux (ux (ux (ux (ux (ux (ux (m) 1 (8 + 28 * k) (m 1 (8 + 28 * k) + (m 1 (10 + 28 * k + 4 * a) - m 1 (207 + 10 * c)))) 1 (206 + 10 * c) (nI a)) 1 (207 + 10 * c) (m 1 (10 + 28 * k + 4 * a))) 1 (205 + 10 * c) (1)) 1 (209 + 10 * c) (m 1 1)) 1 (210 + 10 * c) (-1)) 1 (208 + 10 * c) (r)) 1 (211 + 10 * c) (3)) 1 (210 + 10 * c) = -1 := by (repeat rw [ux_j (by omega)]); exact ux_at
  have w1 := (f_stageOf F3.1 hN y0 hc).trans (congrArg some y1)
  have w2 := (f_folOf F3.1 hN y0 hc).trans (congrArg some y2)
  unfold f_X3_tieOf
  rw [w1, sb, if_neg (show ¬ (1 : Int32) = 0 by decide), w2, sb, if_pos (show (-1 : Int32) = -1 from rfl)]

