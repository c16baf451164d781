theorem f_hasP {b : Nat} {x : XS} {z : ZS} (hS : Sim b x z) {P : Nat} (hP : P ≤ 24) (e : z 5 = nI P) (a : Int32) : ((a < 0 ∨ nI P ≤ a) → f_X2_has b x a = some 0) ∧ ∀ j, j < P → a = nI j → f_X2_has b x a = some 1 := by
  unfold f_X2_has
  rw [sm_P hS, e]
  refine ⟨fun q => ?_, fun j hj q => ?_⟩
  · by_cases h0 : a < 0
    · rw [if_pos h0]
    · rw [if_neg h0, if_pos (q.resolve_left h0)]
  · subst q
    rw [if_neg (nI_pos (by omega)), if_neg (nI_ge hj (by omega))]
theorem f_amP {b : Nat} {x : XS} {z : ZS} (hS : Sim b x z) {P p : Nat} (hP : P ≤ 24) (e : z 5 = nI P) (hp : p < P) : f_X2_amendsOf b x (nI p) = some (z (130 + 3 * p)) := by
  unfold f_X2_amendsOf
  rw [(f_hasP hS hP e _).2 p hp rfl, sb, if_neg (by decide), ag (by omega), sb]
  exact congrArg some (sm_pr (j := 0) hS (by decide) (by omega))
theorem f_monP {b : Nat} {x : XS} {z : ZS} (hS : Sim b x z) {P p : Nat} (hP : P ≤ 24) (e : z 5 = nI P) (hp : p < P) : f_X2_monthOf b x (nI p) = some (z (130 + 3 * p + 1)) := by
  unfold f_X2_monthOf
  rw [(f_hasP hS hP e _).2 p hp rfl, sb, if_neg (by decide), ag (by omega), sb]
  exact congrArg some (sm_pr (j := 1) hS (by decide) (by omega))
theorem f_setP {b : Nat} {x : XS} {z : ZS} (hS : Sim b x z) {P p : Nat} (hP : P ≤ 24) (e : z 5 = nI P) (hp : p < P) : f_X2_setterOf b x (nI p) = some (z (132 + 3 * p)) := by
  unfold f_X2_setterOf
  rw [(f_hasP hS hP e _).2 p hp rfl, sb, if_neg (by decide), ag (by omega), sb, show 132 + 3 * p = 130 + 3 * p + 2 by omega]
  exact congrArg some (sm_pr (j := 2) hS (by decide) (by omega))
