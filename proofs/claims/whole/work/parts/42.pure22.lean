/-! ===== sums over the complaints ===== -/
def sf (g : Nat → Int32) : Nat → Nat → Int32
  | 0, _ => 0
  | q + 1, i => g i + sf g q (i + 1)
theorem lp_sf {L : Nat → Int32 → Int32 → Option Int32} {g : Nat → Int32} {N : Nat} (he : ∀ n acc, L (n + 1) acc (nI N) = some acc) (hs : ∀ n acc i, i < N → L (n + 1) acc (nI i) = L n (acc + g i) (nI (i + 1))) : ∀ q n i acc, i + q = N → q < n → L n acc (nI i) = some (acc + sf g q i) := by
  intro q
  induction q with
  | zero =>
    intro n i acc hq hn
    cases n with
    | zero => omega
    | succ n =>
      rw [show i = N by omega, he]
      show some acc = some (acc + 0)
      rw [Int32.add_zero]
  | succ q ih =>
    intro n i acc hq hn
    cases n with
    | zero => omega
    | succ n =>
      rw [hs n acc i (by omega), ih n (i + 1) _ (by omega) (by omega)]
      show some (acc + g i + sf g q (i + 1)) = some (acc + (g i + sf g q (i + 1)))
      rw [Int32.add_assoc]
theorem lp_all {L : Nat → Int32 → Int32 → Option Int32} {g : Nat → Int32} {N : Nat} (hN : N ≤ 24) (he : ∀ n acc, L (n + 1) acc (nI N) = some acc) (hs : ∀ n acc i, i < N → L (n + 1) acc (nI i) = L n (acc + g i) (nI (i + 1))) : L 4096 0 0 = some (sf g N 0) := by
  have h := lp_sf he hs N 4096 0 0 (by omega) (by omega)
  rw [Int32.zero_add] at h
  exact h
theorem sf_congr {g h : Nat → Int32} : ∀ q i, (∀ j, i ≤ j → j < i + q → g j = h j) → sf g q i = sf h q i := by
  intro q
  induction q with
  | zero => intro i _; rfl
  | succ q ih =>
    intro i hj
    show g i + sf g q (i + 1) = h i + sf h q (i + 1)
    rw [hj i (Nat.le_refl _) (by omega), ih (i + 1) (fun j h1 h2 => hj j (by omega) (by omega))]
theorem i_ac (a b c d : Int32) : (a + b) + (c + d) = (a + c) + (b + d) := by grind
theorem sf_add {g h : Nat → Int32} : ∀ q i, sf (fun j => g j + h j) q i = sf g q i + sf h q i := by
  intro q
  induction q with
  | zero => intro i; exact (Int32.add_zero 0).symm
  | succ q ih =>
    intro i
    show (g i + h i) + sf (fun j => g j + h j) q (i + 1) = (g i + sf g q (i + 1)) + (h i + sf h q (i + 1))
    rw [ih, i_ac]
theorem sf_kinds {f kd : Nat → Int32} {N : Nat} (hk : ∀ i, i < N → ∃ k : Nat, k < 4 ∧ kd i = nI k) : sf (fun k => sf (fun i => if kd i = nI k then f i else 0) N 0) 4 0 = sf f N 0 := by
  show sf (fun i => if kd i = nI 0 then f i else 0) N 0 + (sf (fun i => if kd i = nI 1 then f i else 0) N 0 + (sf (fun i => if kd i = nI 2 then f i else 0) N 0 + (sf (fun i => if kd i = nI 3 then f i else 0) N 0 + 0))) = _
  rw [Int32.add_zero, ← sf_add, ← sf_add, ← sf_add]
  refine sf_congr N 0 (fun j _ hj => ?_)
  obtain ⟨k, k4, e⟩ := hk j (by omega)
  rw [e]
  rcases (show k = 0 ∨ k = 1 ∨ k = 2 ∨ k = 3 by omega) with rfl | rfl | rfl | rfl
  · rw [if_pos rfl, if_neg (show ¬ nI 0 = nI 1 by decide), if_neg (show ¬ nI 0 = nI 2 by decide), if_neg (show ¬ nI 0 = nI 3 by decide), Int32.add_zero, Int32.add_zero, Int32.add_zero]
  · rw [if_pos rfl, if_neg (show ¬ nI 1 = nI 0 by decide), if_neg (show ¬ nI 1 = nI 2 by decide), if_neg (show ¬ nI 1 = nI 3 by decide), Int32.add_zero, Int32.add_zero, Int32.zero_add]
  · rw [if_pos rfl, if_neg (show ¬ nI 2 = nI 0 by decide), if_neg (show ¬ nI 2 = nI 1 by decide), if_neg (show ¬ nI 2 = nI 3 by decide), Int32.add_zero, Int32.zero_add, Int32.zero_add]
  · rw [if_pos rfl, if_neg (show ¬ nI 3 = nI 0 by decide), if_neg (show ¬ nI 3 = nI 1 by decide), if_neg (show ¬ nI 3 = nI 2 by decide), Int32.zero_add, Int32.zero_add, Int32.zero_add]
theorem sf_01 {f : Nat → Prop} [DecidablePred f] : ∀ q i, ∃ c : Nat, c ≤ q ∧ sf (fun j => if f j then 1 else 0) q i = nI c := by
  intro q
  induction q with
  | zero => intro i; exact ⟨0, Nat.le_refl _, rfl⟩
  | succ q ih =>
    intro i
    obtain ⟨c, c1, c2⟩ := ih (i + 1)
    show ∃ c, _ ∧ (if f i then (1 : Int32) else 0) + sf (fun j => if f j then 1 else 0) q (i + 1) = _
    rw [c2]
    by_cases h : f i
    · rw [if_pos h]
      exact ⟨1 + c, by omega, nI_p 1 c rfl⟩
    · rw [if_neg h, Int32.zero_add]
      exact ⟨c, by omega, rfl⟩
