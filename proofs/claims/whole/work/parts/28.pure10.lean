/-! ===== a decided complaint's stage ===== -/
theorem InvNP.stage {z : ZS} {N P c st st1 : Nat} (h : InvNP z N P) (hc : c < N) (e : z (205 + 10 * c) = nI st) (h0 : 0 < st) (h3 : st ≤ 3) (g0 : 0 < st1) (g3 : st1 ≤ 3) : InvNP (upd z (205 + 10 * c) (nI st1)) N P := by
  have hP := h.P24
  obtain ⟨h1, h2, ⟨mo, o1, o2⟩, e3, h4, h5, h6, h7, h8⟩ := h
  have hz : ∀ i, i ≠ 205 + 10 * c → upd z (205 + 10 * c) (nI st1) i = z i := fun i hi => pk_un hi
  have hs : upd z (205 + 10 * c) (nI st1) (205 + 10 * c) = nI st1 := pk_us
  have hA : ∀ {k a : Nat}, k < 4 → hasA z k a → hasA (upd z (205 + 10 * c) (nI st1)) k a := fun hk q => by
    obtain ⟨t, t0, t1, t2⟩ := q
    exact ⟨t, t0, by rw [hz _ (by omega), t1], t2⟩
  have hK : ∀ {d k : Nat}, kd z d k → kd (upd z (205 + 10 * c) (nI st1)) d k := fun q => ⟨q.1, by rw [hz _ (by omega), q.2]⟩
  have ne0 : ∀ d, z (205 + 10 * d) ≠ 0 ↔ upd z (205 + 10 * c) (nI st1) (205 + 10 * d) ≠ 0 := fun d => by
    by_cases q : d = c
    · subst q
      rw [hs, e]
      exact ⟨fun _ => nI_ne0 g0 (by omega), fun _ => nI_ne0 h0 (by omega)⟩
    · rw [hz _ (by omega)]
  refine ⟨h1, by rw [hz _ (by omega), h2], ⟨mo, o1, by rw [hz _ (by omega), o2]⟩, by rw [hz _ (by omega), e3], ?_, fun k hk => ?_, fun d hd => ?_, fun p hp => ?_, fun i hi => ?_⟩
  · rw [cnt_congr (g := fun d => z (205 + 10 * d) ≠ 0) N (fun d _ => (ne0 d).symm)]
    exact h4
  · obtain ⟨s, s1, s2⟩ := h5 k hk
    exact ⟨s, s1, by rw [hz _ (by omega), s2]⟩
  · obtain ⟨k, k1, ⟨v, v1, v2, v3⟩, t, s1, s2, s3, s4⟩ := h6 d hd
    have key : t ≠ 0 → (∃ a, hasA (upd z (205 + 10 * c) (nI st1)) k a ∧ upd z (205 + 10 * c) (nI st1) (206 + 10 * d) = nI a ∧ upd z (205 + 10 * c) (nI st1) (207 + 10 * d) = upd z (205 + 10 * c) (nI st1) (10 + 28 * k + 4 * a)) ∧
        ((upd z (205 + 10 * c) (nI st1) (211 + 10 * d) = 3 ∧ upd z (205 + 10 * c) (nI st1) (210 + 10 * d) = -1) ∨ ∃ p s, p < P ∧ upd z (205 + 10 * c) (nI st1) (210 + 10 * d) = nI p ∧ upd z (205 + 10 * c) (nI st1) (132 + 3 * p) = nI s ∧ s < 24 ∧ kd (upd z (205 + 10 * c) (nI st1)) s k ∧ upd z (205 + 10 * c) (nI st1) (211 + 10 * d) = if s = d then 1 else 2) := fun w => by
      obtain ⟨⟨a, a1, a2, a3⟩, b⟩ := s4 w
      have ha : a < 6 := by obtain ⟨s, q0, q1, q2⟩ := a1; omega
      have hk4 := k1.1
      refine ⟨⟨a, hA k1.1 a1, by rw [hz _ (by omega), a2], by rw [hz _ (by omega), hz (10 + 28 * k + 4 * a) (by omega), a3]⟩, ?_⟩
      rw [hz (211 + 10 * d) (by omega), hz (210 + 10 * d) (by omega)]
      rcases b with b | ⟨p, s9, b1, b2, b3, b4, b5, b6⟩
      · exact Or.inl b
      · exact Or.inr ⟨p, s9, b1, b2, by rw [hz _ (by omega), b3], b4, hK b5, b6⟩
    by_cases q : d = c
    · subst q
      have ht : t = st := (nI_eq (by omega) (by omega)).mp (s2.symm.trans e)
      exact ⟨k, hK k1, ⟨v, v1, v2, by rw [hz _ (by omega), v3]⟩, st1, g3, hs, fun w => absurd w (by omega), fun _ => key (by omega)⟩
    · refine ⟨k, hK k1, ⟨v, v1, v2, by rw [hz _ (by omega), v3]⟩, t, s1, by rw [hz _ (by omega), s2], fun w => ?_, key⟩
      rw [hz _ (by omega), hz _ (by omega), hz _ (by omega), hz _ (by omega), hz _ (by omega), hz _ (by omega)]
      exact s3 w
  · obtain ⟨s9, s1, s2, s3, k, k1, a, a1, a2⟩ := h7 p hp
    exact ⟨s9, s1, by rw [hz _ (by omega), s2], (ne0 s9).mp s3, k, hK k1, a, hA k1.1 a1, by rw [hz _ (by omega), a2]⟩
  · unfold LtOK
    rw [hz (118 + i) (by omega)]
    rcases h8 i hi with q | ⟨p, s9, b1, b2, b3, b4, b5⟩
    · exact Or.inl q
    · exact Or.inr ⟨p, s9, b1, b2, by rw [hz _ (by omega), b3], b4, by rw [hz _ (by omega), b5]⟩
