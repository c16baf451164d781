/-! ===== complaints, read ===== -/
theorem f_hasC {b : Nat} {x : XS} {z : ZS} (hS : Sim b x z) {N : Nat} (hN : N ≤ 24) (e : z 0 = nI N) (a : Int32) : ((a < 0 ∨ nI N ≤ a) → f_X0_has b x a = some 0) ∧ ∀ j, j < N → a = nI j → f_X0_has b x a = some 1 := by
  unfold f_X0_has
  rw [sm_N hS, e]
  refine ⟨fun q => ?_, fun j hj q => ?_⟩
  · by_cases h0 : a < 0
    · rw [if_pos h0]
    · rw [if_neg h0, if_pos (q.resolve_left h0)]
  · subst q
    rw [if_neg (nI_pos (by omega)), if_neg (nI_ge hj (by omega))]
theorem f_isC {m : XS} {N : Nat} (hN : N ≤ 24) (e : m 1 0 = nI N) (a : Int32) : (f_X5_isComplaint m a = some 0 ∧ (a < 0 ∨ nI N ≤ a)) ∨ ∃ j, j < N ∧ a = nI j ∧ f_X5_isComplaint m a = some 1 := by
  unfold f_X5_isComplaint
  rw [ag' (e := 0) (n := 442) 0 rfl (by decide), sb, e, in_eq]
  unfold f_X4_isWithin
  rcases pk_ix a (n := N) (by omega) with h1 | h1 | ⟨j, hj, rfl⟩
  · exact Or.inl ⟨by rw [if_pos h1]; rfl, Or.inl h1⟩
  · refine Or.inl ⟨?_, Or.inr h1⟩
    have h0 : ¬ a < 0 := fun q => absurd (Int32.lt_of_le_of_lt h1 q) (nI_pos (by omega))
    have h2 : nI N - 1 < a := by
      refine Int32.lt_of_lt_of_le ?_ h1
      rw [Int32.lt_iff_toInt_lt, show (1 : Int32) = nI 1 from rfl, pk_sub_toInt (by omega) (by omega), nI_toInt (by omega)]
      omega
    rw [if_neg h0, if_pos h2]
    rfl
  · refine Or.inr ⟨j, hj, rfl, ?_⟩
    have h2 : ¬ nI N - 1 < nI j := by
      obtain ⟨d, rfl⟩ : ∃ d, N = d + 1 := ⟨N - 1, by omega⟩
      rw [nI_pred]
      exact nI_nlt (by omega) (by omega)
    rw [if_neg (nI_pos (by omega)), if_neg h2]
    rfl
theorem f_kindOf {b : Nat} {x : XS} {z : ZS} (hS : Sim b x z) {N c : Nat} (hN : N ≤ 24) (e : z 0 = nI N) (hc : c < N) : f_X0_kindOf b x (nI c) = some (z (202 + 10 * c)) := by
  unfold f_X0_kindOf
  rw [(f_hasC hS hN e _).2 c hc rfl, sb, if_neg (by decide), ag (by omega), sb]
  exact congrArg some (sm_co (j := 0) hS (by decide) (by omega))
theorem f_stageOf {b : Nat} {x : XS} {z : ZS} (hS : Sim b x z) {N c : Nat} (hN : N ≤ 24) (e : z 0 = nI N) (hc : c < N) : f_X0_stageOf b x (nI c) = some (z (205 + 10 * c)) := by
  unfold f_X0_stageOf
  rw [(f_hasC hS hN e _).2 c hc rfl, sb, if_neg (by decide), ag (by omega), sb, show 205 + 10 * c = 202 + 10 * c + 3 by omega]
  exact congrArg some (sm_co (j := 3) hS (by decide) (by omega))
theorem f_sevOf {b : Nat} {x : XS} {z : ZS} (hS : Sim b x z) {N c : Nat} (hN : N ≤ 24) (e : z 0 = nI N) (hc : c < N) : f_X0_severityOf b x (nI c) = some (z (203 + 10 * c)) := by
  unfold f_X0_severityOf
  rw [(f_hasC hS hN e _).2 c hc rfl, sb, if_neg (by decide), ag (by omega), sb, show 203 + 10 * c = 202 + 10 * c + 1 by omega]
  exact congrArg some (sm_co (j := 1) hS (by decide) (by omega))
theorem f_gotOf {b : Nat} {x : XS} {z : ZS} (hS : Sim b x z) {N c : Nat} (hN : N ≤ 24) (e : z 0 = nI N) (hc : c < N) : f_X0_gotOf b x (nI c) = some (z (207 + 10 * c)) := by
  unfold f_X0_gotOf
  rw [(f_hasC hS hN e _).2 c hc rfl, sb, if_neg (by decide), ag (by omega), sb, show 207 + 10 * c = 202 + 10 * c + 5 by omega]
  exact congrArg some (sm_co (j := 5) hS (by decide) (by omega))
theorem f_monthOf {b : Nat} {x : XS} {z : ZS} (hS : Sim b x z) {N c : Nat} (hN : N ≤ 24) (e : z 0 = nI N) (hc : c < N) : f_X0_monthOf b x (nI c) = some (z (209 + 10 * c)) := by
  unfold f_X0_monthOf
  rw [(f_hasC hS hN e _).2 c hc rfl, sb, if_neg (by decide), ag (by omega), sb, show 209 + 10 * c = 202 + 10 * c + 7 by omega]
  exact congrArg some (sm_co (j := 7) hS (by decide) (by omega))
theorem f_folOf {b : Nat} {x : XS} {z : ZS} (hS : Sim b x z) {N c : Nat} (hN : N ≤ 24) (e : z 0 = nI N) (hc : c < N) : f_X0_followedBy b x (nI c) = some (z (210 + 10 * c)) := by
  unfold f_X0_followedBy
  rw [(f_hasC hS hN e _).2 c hc rfl, sb, if_neg (by decide), ag (by omega), sb, show 210 + 10 * c = 202 + 10 * c + 8 by omega]
  exact congrArg some (sm_co (j := 8) hS (by decide) (by omega))
