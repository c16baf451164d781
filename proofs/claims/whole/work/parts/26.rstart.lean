/-! ===== the start ===== -/
theorem R_start : RI xS mS := by
  have e : mS 1 = zS := rfl
  refine ⟨?_, ?_, ⟨0, 0, by decide, by decide, by decide +kernel, by decide +kernel, by decide +kernel, fun q hq => absurd hq (Nat.not_lt_zero q)⟩, ⟨0, by decide, by decide +kernel, by decide +kernel, fun i hi => absurd hi (Nat.not_lt_zero i)⟩⟩
  · rw [e]
    intro off slot i hi
    have h : ∀ off, off < 26 → ∀ slot, slot < 24 → (match zx off slot with | none => true | some i => decide (xS (1 + off) slot = zS i)) = true := by decide +kernel
    have h1 := h off (zx_lt hi).1 slot (zx_lt hi).2
    rw [hi] at h1
    exact of_decide_eq_true h1
  · rw [e]
    refine ⟨⟨0, 0, by decide, by decide +kernel, ⟨0, by decide, by decide +kernel⟩, by decide +kernel, Nat.zero_le _, fun k hk => ⟨0, by decide, ?_⟩, fun c hc => absurd hc (Nat.not_lt_zero c), fun p hp => absurd hp (Nat.not_lt_zero p), fun i hi => Or.inl ?_⟩, fun k a hk ha => Or.inl ?_, 0, by decide, by decide +kernel⟩
    · have h : ∀ k, k < 4 → zS (9 + 28 * k) = nI 0 := by decide +kernel
      exact h k hk
    · have h : ∀ i, i < 12 → zS (118 + i) = -1 := by decide +kernel
      exact h i hi
    · have h : ∀ k, k < 4 → ∀ a, a < 6 → zS (13 + 28 * k + 4 * a) = 0 := by decide +kernel
      exact h k hk a ha
