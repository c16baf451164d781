/-! ===== the menus ===== -/
theorem Inv.size {z : ZS} (h : Inv z) {k : Nat} (hk : k < 4) : ∃ s : Nat, s ≤ 6 ∧ z (9 + 28 * k) = nI s := by
  obtain ⟨⟨N, P, h⟩, -⟩ := h
  exact h.2.2.2.2.2.1 k hk
theorem f_isAm {m : XS} {k s : Nat} (hk : k < 4) (hs : s ≤ 6) (h : m 1 (9 + 28 * k) = nI s) (a : Int32) : (f_X5_isAmends m (nI k) a = some 0 ∧ (a < 0 ∨ nI s ≤ a)) ∨ ∃ j, j < s ∧ a = nI j ∧ f_X5_isAmends m (nI k) a = some 1 := by
  unfold f_X5_isAmends
  rw [f_at, sb, ag' (e := nI (6 + 28 * k) + 3) (n := 442) (9 + 28 * k) (by rw [show nI (6 + 28 * k) + 3 = nI (6 + 28 * k + 3) from nI_add _ 3, show 6 + 28 * k + 3 = 9 + 28 * k by omega]) (by omega), sb, h, in_eq]
  unfold f_X4_isWithin
  rcases pk_ix a (n := s) (by omega) with h1 | h1 | ⟨j, hj, rfl⟩
  · exact Or.inl ⟨by rw [if_pos h1]; rfl, Or.inl h1⟩
  · refine Or.inl ⟨?_, Or.inr h1⟩
    have h0 : ¬ a < 0 := fun q => absurd (Int32.lt_of_le_of_lt h1 q) (nI_pos (by omega))
    have h2 : nI s - 1 < a := by
      refine Int32.lt_of_lt_of_le ?_ h1
      rcases (show s = 0 ∨ s = 1 ∨ s = 2 ∨ s = 3 ∨ s = 4 ∨ s = 5 ∨ s = 6 by omega) with rfl | rfl | rfl | rfl | rfl | rfl | rfl <;> decide +kernel
    rw [if_neg h0, if_pos h2]
    rfl
  · refine Or.inr ⟨j, hj, rfl, ?_⟩
    have h2 : ¬ nI s - 1 < nI j := by
      obtain ⟨d, rfl⟩ : ∃ d, s = d + 1 := ⟨s - 1, by omega⟩
      rw [nI_pred]
      exact nI_nlt (by omega) (by omega)
    rw [if_neg (nI_pos (by omega)), if_neg h2]
    rfl
theorem f_has {b : Nat} {x : XS} {z : ZS} (hS : Sim b x z) {k s : Nat} (hk : k < 4) (hs : s ≤ 6) (h : z (9 + 28 * k) = nI s) (a : Int32) : ((a < 0 ∨ nI s ≤ a) → f_X1_has b x (nI k) a = some 0) ∧ ∀ j, j < s → a = nI j → f_X1_has b x (nI k) a = some 1 := by
  have hK : f_X4_isKind (nI k) = some 1 := by
    rcases (show k = 0 ∨ k = 1 ∨ k = 2 ∨ k = 3 by omega) with rfl | rfl | rfl | rfl <;> decide +kernel
  unfold f_X1_has
  rw [hK, sb, if_neg (by decide), ag hk, sb, sm_size hS hk, h]
  refine ⟨fun q => ?_, fun j hj e => ?_⟩
  · by_cases h0 : a < 0
    · rw [if_pos h0]
    · rw [if_neg h0, if_pos (q.resolve_left h0)]
  · subst e
    rw [if_neg (nI_pos (by omega)), if_neg (nI_ge hj (by omega))]
theorem f_has0 {b : Nat} {x : XS} {a0 a : Int32} (h : f_X4_isKind a0 = some 0) : f_X1_has b x a0 a = some 0 := by
  unfold f_X1_has
  rw [h, sb, if_pos rfl]
/-- an offered amends, on both sides -/
theorem f_isOff {b : Nat} {x m : XS} (hS : Sim b x (m 1)) {k s : Nat} (hk : k < 4) (hs : s ≤ 6) (h : m 1 (9 + 28 * k) = nI s) (a : Int32) :
    (f_X1_isOffered b x (nI k) a = some 0 ∧ f_X5_isOffered m (nI k) a = some 0) ∨ ∃ j, j < s ∧ a = nI j ∧ m 1 (13 + 28 * k + 4 * j) = 1 ∧ f_X1_isOffered b x (nI k) a = some 1 ∧ f_X5_isOffered m (nI k) a = some 1 := by
  unfold f_X1_isOffered f_X5_isOffered
  obtain ⟨h1, h2⟩ := f_has hS hk hs h a
  rcases f_isAm hk hs h a with ⟨e, q⟩ | ⟨j, hj, rfl, e⟩
  · rw [h1 q, e]
    exact Or.inl ⟨rfl, rfl⟩
  · rw [h2 j hj rfl, e, sb, sb, if_neg (by decide), if_neg (by decide), f_menuAt, sb,
      ag' (e := nI k * 6 + nI j) (n := 24) (6 * k + j) (by rw [show (6 : Int32) = nI 6 from rfl, pk_mul, nI_add, Nat.mul_comm k 6]) (by omega), sb,
      ag' (e := nI (10 + 28 * k + 4 * j) + 3) (n := 442) (13 + 28 * k + 4 * j) (by rw [show nI (10 + 28 * k + 4 * j) + 3 = nI (10 + 28 * k + 4 * j + 3) from nI_add _ 3, show 10 + 28 * k + 4 * j + 3 = 13 + 28 * k + 4 * j by omega]) (by omega), sb,
      show x (b + 6) (6 * k + j) = m 1 (13 + 28 * k + 4 * j) by rw [show b + 6 = b + (3 + 3) from rfl, sm_am hS (by decide) hk (by omega), show 10 + 28 * k + 4 * j + 3 = 13 + 28 * k + 4 * j by omega]]
    by_cases q : m 1 (13 + 28 * k + 4 * j) = 1
    · rw [if_pos q]
      exact Or.inr ⟨j, hj, rfl, q, rfl, rfl⟩
    · rw [if_neg q]
      exact Or.inl ⟨rfl, rfl⟩
/-- how many are offered, on both sides -/
theorem f_nOff {b : Nat} {x m : XS} (hS : Sim b x (m 1)) (hf : Fl (m 1)) {k s : Nat} (hk : k < 4) (hs : s ≤ 6) (h : m 1 (9 + 28 * k) = nI s) : ∀ q n i (acc : Int32), i + q = s → q < n → ∃ r, f_X1_remove_26 b n x (nI k) acc (nI i) = some (r, x) ∧ f_X5_offered_4 m n (nI k) acc (nI i) = some r := by
  have hK : f_X4_isKind (nI k) = some 1 := by
    rcases (show k = 0 ∨ k = 1 ∨ k = 2 ∨ k = 3 by omega) with rfl | rfl | rfl | rfl <;> decide +kernel
  have hsz : f_X1_sizeOf b x (nI k) = some (nI s) := by
    unfold f_X1_sizeOf
    rw [hK, sb, if_neg (by decide), ag hk, sb, sm_size hS hk, h]
  have e9 : nI (6 + 28 * k) + 3 = nI (9 + 28 * k) := by rw [show nI (6 + 28 * k) + 3 = nI (6 + 28 * k + 3) from nI_add _ 3, show 6 + 28 * k + 3 = 9 + 28 * k by omega]
  intro q
  induction q with
  | zero =>
    intro n i acc hq hn
    cases n with
    | zero => omega
    | succ n =>
      have e : i = s := by omega
      subst e
      refine ⟨acc, ?_, ?_⟩
      · show (f_X1_sizeOf b x (nI k)).bind _ = _
        rw [hsz, sb, if_pos (Int32.le_refl _)]
      · show (f_X5_at (nI k)).bind _ = _
        rw [f_at, sb, e9, ag (by omega), sb, h, if_pos (Int32.le_refl _)]
  | succ q ih =>
    intro n i acc hq hn
    cases n with
    | zero => omega
    | succ n =>
      have hi : i < s := by omega
      have hm : f_X5_offered_4 m (n + 1) (nI k) acc (nI i) = f_X5_offered_4 m n (nI k) (acc + m 1 (13 + 28 * k + 4 * i)) (nI (i + 1)) := by
        show (f_X5_at (nI k)).bind _ = _
        rw [f_at, sb, e9, ag (by omega), sb, h, if_neg (nI_ge hi (by omega)), f_menuAt, sb, ag' (e := nI (10 + 28 * k + 4 * i) + 3) (n := 442) (13 + 28 * k + 4 * i) (by rw [show nI (10 + 28 * k + 4 * i) + 3 = nI (10 + 28 * k + 4 * i + 3) from nI_add _ 3, show 10 + 28 * k + 4 * i + 3 = 13 + 28 * k + 4 * i by omega]) (by omega), sb, sb, sb, nI_1]
      have hx : f_X1_remove_26 b (n + 1) x (nI k) acc (nI i) = f_X1_remove_26 b n x (nI k) (acc + m 1 (13 + 28 * k + 4 * i)) (nI (i + 1)) := by
        show (f_X1_sizeOf b x (nI k)).bind _ = _
        rw [hsz, sb, if_neg (nI_ge hi (by omega))]
        rcases f_isOff hS hk hs h (nI i) with ⟨e, e'⟩ | ⟨j, hj, ej, e1, e, e'⟩
        · rw [e, sb, if_pos rfl]
          unfold f_X1_remove_49
          rw [sb, nI_1]
          have h0 : m 1 (13 + 28 * k + 4 * i) = 0 := by
            rcases hf.1 k i hk (by omega) with q0 | q1
            · exact q0
            · exfalso
              unfold f_X5_isOffered at e'
              rcases f_isAm hk hs h (nI i) with ⟨-, w⟩ | ⟨j, hj, ej, w⟩
              · rcases w with w | w
                · exact nI_pos (by omega) w
                · exact nI_ge hi (by omega) w
              · rw [w, sb, if_neg (by decide), f_menuAt, sb, ag' (e := nI (10 + 28 * k + 4 * i) + 3) (n := 442) (13 + 28 * k + 4 * i) (by rw [show nI (10 + 28 * k + 4 * i) + 3 = nI (10 + 28 * k + 4 * i + 3) from nI_add _ 3, show 10 + 28 * k + 4 * i + 3 = 13 + 28 * k + 4 * i by omega]) (by omega), sb, if_pos q1] at e'
                cases e'
          rw [h0, Int32.add_zero]
        · have ej : i = j := (nI_eq (by omega) (by omega)).mp ej
          subst ej
          rw [e, sb, if_neg (by decide), sb]
          unfold f_X1_remove_49
          rw [sb, nI_1, e1]
      rw [hm, hx]
      exact ih n (i + 1) _ (by omega) (by omega)
