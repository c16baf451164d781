/-! ===== appealing ===== -/
theorem f_staged {b : Nat} {x m : XS} (hS : Sim b x (m 1)) {N : Nat} (hN : N ≤ 24) (e : m 1 0 = nI N) (w : Int32) : ∀ q n i (acc : Int32), i + q = N → q < n → ∃ r, f_X0_inStage_4 b x n w acc (nI i) = some r ∧ f_X5_staged_4 m n w acc (nI i) = some r := by
  intro q
  induction q with
  | zero =>
    intro n i acc hq hn
    cases n with
    | zero => omega
    | succ n =>
      have ei : i = N := by omega
      subst ei
      refine ⟨acc, ?_, ?_⟩
      · show (if x (b + 7) 0 ≤ nI i then _ else _) = _
        rw [sm_N hS, e, if_pos (Int32.le_refl _)]
      · show (aget 442 (m 1) 0).bind _ = _
        rw [ag' (e := 0) (n := 442) 0 rfl (by decide), sb, e, if_pos (Int32.le_refl _)]
  | succ q ih =>
    intro n i acc hq hn
    cases n with
    | zero => omega
    | succ n =>
      have hi : i < N := by omega
      obtain ⟨r, r1, r2⟩ := ih n (i + 1) (if m 1 (205 + 10 * i) = w then acc + 1 else acc) (by omega) (by omega)
      refine ⟨r, ?_, ?_⟩
      · show (if x (b + 7) 0 ≤ nI i then _ else _) = _
        rw [sm_N hS, e, if_neg (nI_ge hi (by omega)), f_stageOf hS hN e hi, sb]
        by_cases h : m 1 (205 + 10 * i) = w
        · rw [if_pos h] at r1 ⊢
          unfold f_X0_inStage_24
          rw [sb, sb, nI_1]
          exact r1
        · rw [if_neg h] at r1 ⊢
          unfold f_X0_inStage_24
          rw [sb, nI_1]
          exact r1
      · show (aget 442 (m 1) 0).bind _ = _
        rw [ag' (e := 0) (n := 442) 0 rfl (by decide), sb, e, if_neg (nI_ge hi (by omega)), f_of, sb, ag' (e := nI (202 + 10 * i) + 3) (n := 442) (205 + 10 * i) (nI_p _ 3 (by omega)) (by omega), sb]
        by_cases h : m 1 (205 + 10 * i) = w
        · rw [if_pos h] at r2 ⊢
          unfold f_X5_staged_35
          rw [sb, sb, nI_1]
          exact r2
        · rw [if_neg h] at r2 ⊢
          unfold f_X5_staged_35
          rw [sb, sb, nI_1, Int32.add_zero]
          exact r2
