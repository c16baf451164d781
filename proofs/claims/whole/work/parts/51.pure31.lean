/-! ===== the text ===== -/
def TX (m m1 : XS) : Prop := (∀ q, q ≠ 0 → q ≠ 5 → m1 q = m q) ∧ ∀ j, j ≠ 8 → j ≠ 9 → m1 0 j = m 0 j
theorem TX.rf {m : XS} : TX m m := ⟨fun _ _ _ => rfl, fun _ _ _ => rfl⟩
theorem TX.tr {m m1 m2 : XS} (h : TX m m1) (g : TX m1 m2) : TX m m2 := ⟨fun q a b => (g.1 q a b).trans (h.1 q a b), fun j a b => (g.2 j a b).trans (h.2 j a b)⟩
theorem TX.p8 {m : XS} {v : Int32} : TX m (ux m 0 8 v) := ⟨fun q a _ => ux_ne a, fun j a _ => ux_j a⟩
theorem TX.p9 {m : XS} {v : Int32} : TX m (ux m 0 9 v) := ⟨fun q a _ => ux_ne a, fun j _ a => ux_j a⟩
theorem TX.p5 {m : XS} {k : Nat} {v : Int32} : TX m (ux m 5 k v) := ⟨fun q _ a => ux_ne a, fun j _ _ => ux_k (by decide)⟩
theorem TX.R {x m m1 : XS} (h : RI x m) (t : TX m m1) : RI x m1 := by
  have e := t.1 1 (by decide) (by decide)
  exact h.step (by rw [e]; exact h.1) (by rw [e]; exact h.2.1) (fun _ _ => rfl) (t.2 3 (by decide) (by decide)) (t.2 5 (by decide) (by decide)) (t.1 2 (by decide) (by decide)) (t.1 4 (by decide) (by decide))
def ft (m : XS) (i : Nat) : Prop := f_X4_fitsPlace (nI (i % 7)) (m 4 i) = some 1
def Cd (m : XS) (n : Nat) : Prop := n ≤ 60 ∧ m 0 5 = nI n ∧ ∀ i, i < n → ∃ v : Nat, 33 ≤ v ∧ v ≤ 126 ∧ m 4 i = nI v
theorem Cd.tx {m m1 : XS} {n : Nat} (h : Cd m n) (t : TX m m1) : Cd m1 n := ⟨h.1, (t.2 5 (by decide) (by decide)).trans h.2.1, fun i hi => by rw [t.1 4 (by decide) (by decide)]; exact h.2.2 i hi⟩
theorem ft.tx {m m1 : XS} {i : Nat} (t : TX m m1) : ft m1 i ↔ ft m i := by unfold ft; rw [t.1 4 (by decide) (by decide)]
/-- one place read: what came out (u), and where the place is then -/
def Sp (m m1 : XS) (n p : Nat) (u : Int32) : Prop := TX m m1 ∧ m1 0 9 = m 0 9 ∧ ((u = 1 ∧ p < n ∧ ft m p ∧ m1 0 8 = nI (p + 1)) ∨ (u = 0 ∧ (p = n ∨ ¬ ft m p) ∧ m1 0 8 = nI p))
theorem s_takes {m : XS} {n p : Nat} {c : Int32} (h : Cd m n) (h8 : m 0 8 = nI p) (hp : p ≤ n) (hs : ∀ code, f_X4_fitsPlace (nI (p % 7)) code = if code = c then some 1 else some 0) : ∃ u m1, f_X5_takes m c = some (u, m1) ∧ Sp m m1 n p u ∧ m1 5 = m 5 := by
  have h29 : ∀ u t : Int32, (u = 0 ∧ t = 0 ∨ u = 1 ∧ t = 1) → f_X5_takes_29 m u = some (u, ux m 0 8 (m 0 8 + t)) := by
    intro u t hu
    unfold f_X5_takes_29 f_X5_takes_44
    rcases hu with ⟨rfl, rfl⟩ | ⟨rfl, rfl⟩
    · rw [if_pos rfl, sb, if_pos (Or.inl rfl)]
    · rw [if_neg (show ¬ (1 : Int32) = 0 by decide), sb, if_pos (Or.inr rfl)]
  have h60 := h.1
  unfold f_X5_takes f_X5_takes_28
  rw [h.2.1, h8]
  by_cases e : p = n
  · subst e
    rw [if_pos (Int32.le_refl _), h29 0 0 (Or.inl ⟨rfl, rfl⟩)]
    exact ⟨0, _, rfl, ⟨TX.p8, ux_j (by decide), Or.inr ⟨rfl, Or.inl rfl, by rw [ux_at, h8, Int32.add_zero]⟩⟩, ux_ne (by decide)⟩
  · rw [if_neg (nI_ge (by omega) (by omega)), ag (by omega), sb]
    by_cases q : m 4 p = c
    · rw [if_pos q, h29 1 1 (Or.inr ⟨rfl, rfl⟩)]
      exact ⟨1, _, rfl, ⟨TX.p8, ux_j (by decide), Or.inl ⟨rfl, by omega, by unfold ft; rw [hs, if_pos q], by rw [ux_at, h8, nI_1]⟩⟩, ux_ne (by decide)⟩
    · rw [if_neg q, h29 0 0 (Or.inl ⟨rfl, rfl⟩)]
      exact ⟨0, _, rfl, ⟨TX.p8, ux_j (by decide), Or.inr ⟨rfl, Or.inr (by unfold ft; rw [hs, if_neg q]; decide), by rw [ux_at, h8, Int32.add_zero]⟩⟩, ux_ne (by decide)⟩
theorem s_digit {m : XS} {n p k : Nat} {lo hi : Int32} (h : Cd m n) (h8 : m 0 8 = nI p) (hp : p ≤ n) (hk : k < 45) (hm1 : f_X5_in (-1) lo hi = some 0) (hs : ∀ v, v < 127 → 33 ≤ v → f_X4_fitsPlace (nI (p % 7)) (nI v) = f_X5_in (nI v - 48) lo hi) :
    ∃ u m1, f_X5_digit m (nI k) lo hi = some (u, m1) ∧ Sp m m1 n p u ∧ (∀ j, j ≠ k → m1 5 j = m 5 j) ∧ (u = 1 → m1 5 k = m 4 p - 48) := by
  have h60 := h.1
  have h27 : ∀ d u t : Int32, (u = 0 ∧ t = 0 ∨ u = 1 ∧ t = 1) → f_X5_in d lo hi = some u → f_X5_digit_27 m (nI k) lo hi d = some (u, ux (ux m 5 k d) 0 8 (m 0 8 + t)) := by
    intro d u t hu hd
    unfold f_X5_digit_27 f_X5_digit_61
    rw [hd, sb, asn hk, sb]
    rcases hu with ⟨rfl, rfl⟩ | ⟨rfl, rfl⟩
    · rw [if_pos rfl, sb, if_pos (Or.inl rfl), ux_k (show (0 : Nat) ≠ 5 by decide)]
    · rw [if_neg (show ¬ (1 : Int32) = 0 by decide), sb, if_pos (Or.inr rfl), ux_k (show (0 : Nat) ≠ 5 by decide)]
  unfold f_X5_digit
  rw [h.2.1, h8]
  by_cases e : p = n
  · subst e
    rw [if_pos (Int32.le_refl _), h27 (-1) 0 0 (Or.inl ⟨rfl, rfl⟩) hm1]
    exact ⟨0, _, rfl, ⟨TX.p5.tr TX.p8, by rw [ux_j (by decide), ux_k (by decide)], Or.inr ⟨rfl, Or.inl rfl, by rw [ux_at, h8, Int32.add_zero]⟩⟩, fun j hj => by rw [ux_k (by decide), ux_j hj], fun w => absurd w (by decide)⟩
  · rw [if_neg (nI_ge (by omega) (by omega)), ag (by omega), sb]
    obtain ⟨v, v1, v2, ev⟩ := h.2.2 p (by omega)
    have hf := hs v (by omega) v1
    have hf : f_X4_fitsPlace (nI (p % 7)) (m 4 p) = f_X5_in (m 4 p - 48) lo hi := by rw [ev]; exact hf
    rcases wi_01 (m 4 p - 48) lo hi with w | w
    · rw [← in_eq] at w
      rw [h27 _ 0 0 (Or.inl ⟨rfl, rfl⟩) w]
      exact ⟨0, _, rfl, ⟨TX.p5.tr TX.p8, by rw [ux_j (by decide), ux_k (by decide)], Or.inr ⟨rfl, Or.inr (by unfold ft; rw [hf, w]; decide), by rw [ux_at, h8, Int32.add_zero]⟩⟩, fun j hj => by rw [ux_k (by decide), ux_j hj], fun w => absurd w (by decide)⟩
    · rw [← in_eq] at w
      rw [h27 _ 1 1 (Or.inr ⟨rfl, rfl⟩) w]
      exact ⟨1, _, rfl, ⟨TX.p5.tr TX.p8, by rw [ux_j (by decide), ux_k (by decide)], Or.inl ⟨rfl, by omega, by unfold ft; rw [hf, w], by rw [ux_at, h8, nI_1]⟩⟩, fun j hj => by rw [ux_k (by decide), ux_j hj], fun _ => by rw [ux_k (by decide), ux_at]⟩
theorem fp_0 (code : Int32) : f_X4_fitsPlace (nI 0) code = if code = 107 then some 1 else some 0 := by
  unfold f_X4_fitsPlace
  rw [if_pos (show nI 0 = (0 : Int32) from rfl)]
theorem fp_2 (code : Int32) : f_X4_fitsPlace (nI 2) code = if code = 115 then some 1 else some 0 := by
  unfold f_X4_fitsPlace
  rw [if_neg (show ¬ nI 2 = (0 : Int32) by decide), if_neg (show ¬ nI 2 = (1 : Int32) by decide), if_pos (show nI 2 = (2 : Int32) from rfl)]
theorem fp_4 (code : Int32) : f_X4_fitsPlace (nI 4) code = if code = 99 then some 1 else some 0 := by
  unfold f_X4_fitsPlace
  rw [if_neg (show ¬ nI 4 = (0 : Int32) by decide), if_neg (show ¬ nI 4 = (1 : Int32) by decide), if_neg (show ¬ nI 4 = (2 : Int32) by decide), if_neg (show ¬ nI 4 = (3 : Int32) by decide), if_pos (show nI 4 = (4 : Int32) from rfl)]
theorem fp_6 (code : Int32) : f_X4_fitsPlace (nI 6) code = if code = 59 then some 1 else some 0 := by
  unfold f_X4_fitsPlace
  rw [if_neg (show ¬ nI 6 = (0 : Int32) by decide), if_neg (show ¬ nI 6 = (1 : Int32) by decide), if_neg (show ¬ nI 6 = (2 : Int32) by decide), if_neg (show ¬ nI 6 = (3 : Int32) by decide), if_neg (show ¬ nI 6 = (4 : Int32) by decide), if_neg (show ¬ nI 6 = (5 : Int32) by decide)]
theorem fp_1 : ∀ v, v < 127 → 33 ≤ v → f_X4_fitsPlace (nI 1) (nI v) = f_X5_in (nI v - 48) 0 3 := by decide +kernel
theorem fp_3 : ∀ v, v < 127 → 33 ≤ v → f_X4_fitsPlace (nI 3) (nI v) = f_X5_in (nI v - 48) 1 9 := by decide +kernel
theorem fp_5 : ∀ v, v < 127 → 33 ≤ v → f_X4_fitsPlace (nI 5) (nI v) = f_X5_in (nI v - 48) 0 9 := by decide +kernel
theorem fp_01 {s : Nat} (hs : s < 7) (code : Int32) : f_X4_fitsPlace (nI s) code = some 0 ∨ f_X4_fitsPlace (nI s) code = some 1 := by
  have hb : ∀ o : Option Int32, (o = some 0 ∨ o = some 1) → (o.bind fun v => if (v = 0 ∨ v = 1 : Prop) then some v else none) = o := fun o h => by
    rcases h with rfl | rfl <;> rfl
  rcases (show s = 0 ∨ s = 1 ∨ s = 2 ∨ s = 3 ∨ s = 4 ∨ s = 5 ∨ s = 6 by omega) with rfl | rfl | rfl | rfl | rfl | rfl | rfl
  · rw [fp_0]; split; exact Or.inr rfl; exact Or.inl rfl
  · unfold f_X4_fitsPlace
    rw [if_neg (show ¬ nI 1 = (0 : Int32) by decide), if_pos (show nI 1 = (1 : Int32) from rfl), hb _ (wi_01 _ _ _)]
    exact wi_01 _ _ _
  · rw [fp_2]; split; exact Or.inr rfl; exact Or.inl rfl
  · unfold f_X4_fitsPlace
    rw [if_neg (show ¬ nI 3 = (0 : Int32) by decide), if_neg (show ¬ nI 3 = (1 : Int32) by decide), if_neg (show ¬ nI 3 = (2 : Int32) by decide), if_pos (show nI 3 = (3 : Int32) from rfl), hb _ (wi_01 _ _ _)]
    exact wi_01 _ _ _
  · rw [fp_4]; split; exact Or.inr rfl; exact Or.inl rfl
  · unfold f_X4_fitsPlace
    rw [if_neg (show ¬ nI 5 = (0 : Int32) by decide), if_neg (show ¬ nI 5 = (1 : Int32) by decide), if_neg (show ¬ nI 5 = (2 : Int32) by decide), if_neg (show ¬ nI 5 = (3 : Int32) by decide), if_neg (show ¬ nI 5 = (4 : Int32) by decide), if_pos (show nI 5 = (5 : Int32) from rfl), hb _ (wi_01 _ _ _)]
    exact wi_01 _ _ _
  · rw [fp_6]; split; exact Or.inr rfl; exact Or.inl rfl
theorem s_one {m : XS} {n r : Nat} (h : Cd m n) (h8 : m 0 8 = nI (7 * r)) (h9 : m 0 9 = nI r) (hle : 7 * r ≤ n) : ∃ u m1, f_X5_isOne m = some (u, m1) ∧ TX m m1 ∧ m1 0 9 = nI (r + 1) ∧
    ((u = 0 ∧ ∃ j, 7 * r ≤ j ∧ j ≤ 7 * r + 5 ∧ j ≤ n ∧ m1 0 8 = nI j ∧ (∀ i, 7 * r ≤ i → i < j → ft m i) ∧ (j = n ∨ ¬ ft m j)) ∨
     (u = 1 ∧ 7 * r + 6 ≤ n ∧ m1 0 8 = nI (7 * r + 6) ∧ (∀ i, 7 * r ≤ i → i < 7 * r + 6 → ft m i) ∧ m1 5 (3 * r) = m 4 (7 * r + 1) - 48 ∧ m1 5 (3 * r + 1) = m 4 (7 * r + 3) - 48 ∧ m1 5 (3 * r + 2) = m 4 (7 * r + 5) - 48 ∧ ∀ k, k < 3 * r → m1 5 k = m 5 k)) := by
  have h60 := h.1
  have hf : ∀ mm : XS, f_X5_isOne_74 mm = some (0, ux mm 0 9 (mm 0 9 + 1)) := fun mm => by
    unfold f_X5_isOne_74 f_X5_isOne_75
    rw [sb, if_pos (Or.inl rfl)]
  have e0 : (3 : Int32) * nI r = nI (3 * r) := by show nI 3 * nI r = _; rw [pk_mul]
  unfold f_X5_isOne
  rw [h9, e0, sb]
  obtain ⟨u1, m1, a1, ⟨b1, c1, d1⟩, f1⟩ := s_takes (p := 7 * r) (c := 107) h h8 hle (fun code => by rw [show 7 * r % 7 = 0 by omega]; exact fp_0 code)
  rw [a1, sb]
  dsimp only
  have T1 : TX m m1 := b1
  have n1 : m1 0 9 = nI r := c1.trans h9
  rcases d1 with ⟨rfl, l1, k1, p1⟩ | ⟨rfl, k1, p1⟩
  rotate_left 1
  · rw [if_pos rfl, hf]
    refine ⟨0, _, rfl, T1.tr TX.p9, by rw [ux_at, n1, nI_1], Or.inl ⟨rfl, 7 * r, by omega, by omega, by omega, by rw [ux_j (by decide)]; exact p1, ?_, k1⟩⟩
    exact fun i i1 i2 => absurd i2 (by omega)
  rw [if_neg (show ¬ (1 : Int32) = 0 by decide)]
  have q1 : ft m (7 * r) := k1
  obtain ⟨u2, m2, a2, ⟨b2, c2, d2⟩, f2, g2⟩ := s_digit (p := (7 * r + 1)) (k := 3 * r) (lo := 0) (hi := 3) (h.tx T1) p1 (show 7 * r + 1 ≤ n by omega) (by omega) (by decide +kernel) (by rw [show (7 * r + 1) % 7 = 1 by omega]; exact fp_1)
  rw [a2, sb]
  dsimp only
  have T2 : TX m m2 := T1.tr b2
  have n2 : m2 0 9 = nI r := c2.trans n1
  rcases d2 with ⟨rfl, l2, k2, p2⟩ | ⟨rfl, k2, p2⟩
  rotate_left 1
  · rw [if_pos rfl, hf]
    refine ⟨0, _, rfl, T2.tr TX.p9, by rw [ux_at, n2, nI_1], Or.inl ⟨rfl, 7 * r + 1, by omega, by omega, by omega, by rw [ux_j (by decide)]; exact p2, ?_, (k2.imp id (fun w v => w ((ft.tx T1).mpr v)))⟩⟩
    intro i i1 i2
    have e : i = 7 * r := by omega
    rw [e]
    exact q1
  rw [if_neg (show ¬ (1 : Int32) = 0 by decide)]
  have q2 : ft m (7 * r + 1) := (ft.tx T1).mp k2
  obtain ⟨u3, m3, a3, ⟨b3, c3, d3⟩, f3⟩ := s_takes (p := (7 * r + 2)) (c := 115) (h.tx T2) p2 (show 7 * r + 2 ≤ n by omega) (fun code => by rw [show (7 * r + 2) % 7 = 2 by omega]; exact fp_2 code)
  rw [a3, sb]
  dsimp only
  have T3 : TX m m3 := T2.tr b3
  have n3 : m3 0 9 = nI r := c3.trans n2
  rcases d3 with ⟨rfl, l3, k3, p3⟩ | ⟨rfl, k3, p3⟩
  rotate_left 1
  · rw [if_pos rfl, hf]
    refine ⟨0, _, rfl, T3.tr TX.p9, by rw [ux_at, n3, nI_1], Or.inl ⟨rfl, 7 * r + 2, by omega, by omega, by omega, by rw [ux_j (by decide)]; exact p3, ?_, (k3.imp id (fun w v => w ((ft.tx T2).mpr v)))⟩⟩
    intro i i1 i2
    rcases (show i = 7 * r ∨ i = 7 * r + 1 by omega) with rfl | rfl
    · exact q1
    · exact q2
  rw [if_neg (show ¬ (1 : Int32) = 0 by decide)]
  have q3 : ft m (7 * r + 2) := (ft.tx T2).mp k3
  obtain ⟨u4, m4, a4, ⟨b4, c4, d4⟩, f4, g4⟩ := s_digit (p := (7 * r + 3)) (k := 3 * r + 1) (lo := 1) (hi := 9) (h.tx T3) p3 (show 7 * r + 3 ≤ n by omega) (by omega) (by decide +kernel) (by rw [show (7 * r + 3) % 7 = 3 by omega]; exact fp_3)
  rw [nI_1, a4, sb]
  dsimp only
  have T4 : TX m m4 := T3.tr b4
  have n4 : m4 0 9 = nI r := c4.trans n3
  rcases d4 with ⟨rfl, l4, k4, p4⟩ | ⟨rfl, k4, p4⟩
  rotate_left 1
  · rw [if_pos rfl, hf]
    refine ⟨0, _, rfl, T4.tr TX.p9, by rw [ux_at, n4, nI_1], Or.inl ⟨rfl, 7 * r + 3, by omega, by omega, by omega, by rw [ux_j (by decide)]; exact p4, ?_, (k4.imp id (fun w v => w ((ft.tx T3).mpr v)))⟩⟩
    intro i i1 i2
    rcases (show i = 7 * r ∨ i = 7 * r + 1 ∨ i = 7 * r + 2 by omega) with rfl | rfl | rfl
    · exact q1
    · exact q2
    · exact q3
  rw [if_neg (show ¬ (1 : Int32) = 0 by decide)]
  have q4 : ft m (7 * r + 3) := (ft.tx T3).mp k4
  obtain ⟨u5, m5, a5, ⟨b5, c5, d5⟩, f5⟩ := s_takes (p := (7 * r + 4)) (c := 99) (h.tx T4) p4 (show 7 * r + 4 ≤ n by omega) (fun code => by rw [show (7 * r + 4) % 7 = 4 by omega]; exact fp_4 code)
  rw [a5, sb]
  dsimp only
  have T5 : TX m m5 := T4.tr b5
  have n5 : m5 0 9 = nI r := c5.trans n4
  rcases d5 with ⟨rfl, l5, k5, p5⟩ | ⟨rfl, k5, p5⟩
  rotate_left 1
  · rw [if_pos rfl, hf]
    refine ⟨0, _, rfl, T5.tr TX.p9, by rw [ux_at, n5, nI_1], Or.inl ⟨rfl, 7 * r + 4, by omega, by omega, by omega, by rw [ux_j (by decide)]; exact p5, ?_, (k5.imp id (fun w v => w ((ft.tx T4).mpr v)))⟩⟩
    intro i i1 i2
    rcases (show i = 7 * r ∨ i = 7 * r + 1 ∨ i = 7 * r + 2 ∨ i = 7 * r + 3 by omega) with rfl | rfl | rfl | rfl
    · exact q1
    · exact q2
    · exact q3
    · exact q4
  rw [if_neg (show ¬ (1 : Int32) = 0 by decide)]
  have q5 : ft m (7 * r + 4) := (ft.tx T4).mp k5
  obtain ⟨u6, m6, a6, ⟨b6, c6, d6⟩, f6, g6⟩ := s_digit (p := (7 * r + 5)) (k := 3 * r + 2) (lo := 0) (hi := 9) (h.tx T5) p5 (show 7 * r + 5 ≤ n by omega) (by omega) (by decide +kernel) (by rw [show (7 * r + 5) % 7 = 5 by omega]; exact fp_5)
  rw [show nI (3 * r) + 2 = nI (3 * r + 2) from nI_p _ 2 rfl, a6, sb]
  dsimp only
  have T6 : TX m m6 := T5.tr b6
  have n6 : m6 0 9 = nI r := c6.trans n5
  rcases d6 with ⟨rfl, l6, k6, p6⟩ | ⟨rfl, k6, p6⟩
  rotate_left 1
  · rw [if_pos rfl, hf]
    refine ⟨0, _, rfl, T6.tr TX.p9, by rw [ux_at, n6, nI_1], Or.inl ⟨rfl, 7 * r + 5, by omega, by omega, by omega, by rw [ux_j (by decide)]; exact p6, ?_, (k6.imp id (fun w v => w ((ft.tx T5).mpr v)))⟩⟩
    intro i i1 i2
    rcases (show i = 7 * r ∨ i = 7 * r + 1 ∨ i = 7 * r + 2 ∨ i = 7 * r + 3 ∨ i = 7 * r + 4 by omega) with rfl | rfl | rfl | rfl | rfl
    · exact q1
    · exact q2
    · exact q3
    · exact q4
    · exact q5
  rw [if_neg (show ¬ (1 : Int32) = 0 by decide)]
  have q6 : ft m (7 * r + 5) := (ft.tx T5).mp k6
  unfold f_X5_isOne_75
  rw [sb, if_pos (Or.inr rfl)]
  have r5 : ∀ j, (ux m6 0 9 (m6 0 9 + 1)) 5 j = m6 5 j := fun j => ux_k (by decide)
  refine ⟨1, _, rfl, T6.tr TX.p9, by rw [ux_at, n6, nI_1], Or.inr ⟨rfl, by omega, by rw [ux_j (by decide)]; exact p6, ?_, ?_, ?_, ?_, ?_⟩⟩
  · intro i i1 i2
    rcases (show i = 7 * r ∨ i = 7 * r + 1 ∨ i = 7 * r + 2 ∨ i = 7 * r + 3 ∨ i = 7 * r + 4 ∨ i = 7 * r + 5 by omega) with rfl | rfl | rfl | rfl | rfl | rfl
    · exact q1
    · exact q2
    · exact q3
    · exact q4
    · exact q5
    · exact q6
  · rw [r5, f6 _ (by omega), f5, f4 _ (by omega), f3, g2 rfl, T1.1 4 (by decide) (by decide)]
  · rw [r5, f6 _ (by omega), f5, g4 rfl, T3.1 4 (by decide) (by decide)]
  · rw [r5, g6 rfl, T5.1 4 (by decide) (by decide)]
  · intro k hk
    rw [r5, f6 _ (by omega), f5, f4 _ (by omega), f3, f2 _ (by omega), f1]
