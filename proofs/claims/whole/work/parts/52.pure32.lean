/-! ===== the whole text ===== -/
def Rd (m m1 : XS) (r : Nat) : Prop := ∀ t, t < r → m1 5 (3 * t) = m 4 (7 * t + 1) - 48 ∧ m1 5 (3 * t + 1) = m 4 (7 * t + 3) - 48 ∧ m1 5 (3 * t + 2) = m 4 (7 * t + 5) - 48
def Tx (m m1 : XS) (n : Nat) (u : Int32) : Prop := TX m m1 ∧ ∃ j, j ≤ n ∧ m1 0 8 = nI j ∧ (∀ i, i < j → ft m i) ∧ (j = n ∨ ¬ ft m j) ∧
  ((u = 0 ∧ ¬ (j = n ∧ n % 7 = 6)) ∨ (u = 1 ∧ j = n ∧ n % 7 = 6 ∧ m1 0 9 = nI ((n + 1) / 7) ∧ Rd m m1 ((n + 1) / 7)))
theorem s_36 {m0 m : XS} {n j : Nat} (t : TX m0 m) (h : Cd m0 n) (h8 : m 0 8 = nI j) (hj : j ≤ n) (hf : ∀ i, i < j → ft m0 i) (hd : j = n ∨ ¬ ft m0 j) (hn : ¬ (j = n ∧ n % 7 = 6)) : ∃ u m1, f_X5_isText_36 m 0 = some (u, m1) ∧ Tx m0 m1 n u := by
  unfold f_X5_isText_36
  rw [if_pos rfl]
  exact ⟨0, m, rfl, t, j, hj, h8, hf, hd, Or.inl ⟨rfl, hn⟩⟩
theorem s_loop {m0 : XS} {n : Nat} (h : Cd m0 n) : ∀ q f r (m : XS), 7 * r + 6 + 7 * q ≥ n → 7 * r + 6 ≤ n → q < f → TX m0 m → m 0 8 = nI (7 * r + 6) → m 0 9 = nI (r + 1) → (∀ i, i < 7 * r + 6 → ft m0 i) → Rd m0 m (r + 1) → ∃ u m1, f_X5_isText_15 f m 1 = some (u, m1) ∧ Tx m0 m1 n u := by
  have h60 := h.1
  intro q
  induction q with
  | zero =>
    intro f r m hq hle hf t h8 h9 hft hrd
    cases f with
    | zero => omega
    | succ f =>
      show ∃ u m1, (if (1 : Int32) = 0 then _ else _) = some (u, m1) ∧ _
      obtain ⟨u1, m1, a1, ⟨b1, c1, d1⟩, f1⟩ := s_takes (p := 7 * r + 6) (c := 59) (h.tx t) h8 hle (fun code => by rw [show (7 * r + 6) % 7 = 6 by omega]; exact fp_6 code)
      rw [if_neg (show ¬ (1 : Int32) = 0 by decide), a1, sb]
      dsimp only
      rcases d1 with ⟨rfl, l1, k1, p1⟩ | ⟨rfl, k1, p1⟩
      · omega
      · rw [if_pos rfl]
        have T1 := t.tr b1
        have en : 7 * r + 6 = n := by omega
        unfold f_X5_isText_36
        rw [if_neg (show ¬ (1 : Int32) = 0 by decide), p1, T1.2 5 (by decide) (by decide), h.2.1, en, if_pos rfl]
        refine ⟨1, m1, rfl, T1, n, Nat.le_refl _, by rw [p1, en], by rw [← en]; exact hft, Or.inl rfl, Or.inr ⟨rfl, rfl, by omega, ?_, ?_⟩⟩
        · rw [c1, h9, show (n + 1) / 7 = r + 1 by omega]
        · rw [show (n + 1) / 7 = r + 1 by omega]
          intro t ht
          rw [f1]
          exact hrd t ht
  | succ q ih =>
    intro f r m hq hle hf t h8 h9 hft hrd
    cases f with
    | zero => omega
    | succ f =>
      show ∃ u m1, (if (1 : Int32) = 0 then _ else _) = some (u, m1) ∧ _
      obtain ⟨u1, m1, a1, ⟨b1, c1, d1⟩, f1⟩ := s_takes (p := 7 * r + 6) (c := 59) (h.tx t) h8 hle (fun code => by rw [show (7 * r + 6) % 7 = 6 by omega]; exact fp_6 code)
      have T1 := t.tr b1
      rw [if_neg (show ¬ (1 : Int32) = 0 by decide), a1, sb]
      dsimp only
      rcases d1 with ⟨rfl, l1, k1, p1⟩ | ⟨rfl, k1, p1⟩
      · rw [if_neg (show ¬ (1 : Int32) = 0 by decide)]
        obtain ⟨u2, m2, a2, b2, c2, d2⟩ := s_one (n := n) (r := r + 1) (h.tx T1) (by rw [p1, show 7 * r + 6 + 1 = 7 * (r + 1) by omega]) (c1.trans h9) (by omega)
        have T2 := T1.tr b2
        have k1 := (ft.tx t).mp k1
        have hall : ∀ i, i < 7 * (r + 1) → ft m0 i := fun i hi => by
          by_cases e : i < 7 * r + 6
          · exact hft i e
          · rw [show i = 7 * r + 6 by omega]; exact k1
        rw [a2, sb]
        dsimp only
        rcases d2 with ⟨rfl, j, j1, j2, j3, j4, j5, j6⟩ | ⟨rfl, j1, j2, j3, j4, j5, j6, j7⟩
        · cases f with
          | zero => omega
          | succ f =>
            show ∃ u m1, (if (0 : Int32) = 0 then _ else _) = some (u, m1) ∧ _
            rw [if_pos rfl]
            refine s_36 T2 h j4 j3 (fun i hi => ?_) (j6.imp id (fun w v => w ((ft.tx T1).mpr v))) (by omega)
            by_cases e : i < 7 * (r + 1)
            · exact hall i e
            · exact (ft.tx T1).mp (j5 i (by omega) hi)
        · refine ih f (r + 1) m2 (by omega) j1 (by omega) T2 j2 c2 (fun i hi => ?_) (fun t ht => ?_)
          · by_cases e : i < 7 * (r + 1)
            · exact hall i e
            · exact (ft.tx T1).mp (j3 i (by omega) hi)
          · by_cases e : t < r + 1
            · rw [j7 _ (by omega), j7 _ (by omega), j7 _ (by omega), f1]
              exact hrd t e
            · have et : t = r + 1 := by omega
              subst et
              rw [j4, j5, j6, T1.1 4 (by decide) (by decide)]
              exact ⟨rfl, rfl, rfl⟩
      · rw [if_pos rfl]
        unfold f_X5_isText_36
        rw [if_neg (show ¬ (1 : Int32) = 0 by decide), p1, T1.2 5 (by decide) (by decide), h.2.1]
        by_cases en : 7 * r + 6 = n
        · rw [en, if_pos rfl]
          refine ⟨1, m1, rfl, T1, n, Nat.le_refl _, by rw [p1, en], by rw [← en]; exact hft, Or.inl rfl, Or.inr ⟨rfl, rfl, by omega, ?_, ?_⟩⟩
          · rw [c1, h9, show (n + 1) / 7 = r + 1 by omega]
          · rw [show (n + 1) / 7 = r + 1 by omega]
            intro t ht
            rw [f1]
            exact hrd t ht
        · rw [if_neg (fun w => en ((nI_eq (by omega) (by omega)).mp w))]
          exact ⟨0, m1, rfl, T1, 7 * r + 6, hle, p1, hft, k1.imp id (fun w v => w ((ft.tx t).mpr v)), Or.inl ⟨rfl, by omega⟩⟩
theorem s_text {m : XS} {n : Nat} (h : Cd m n) : ∃ u m1, f_X5_isText m = some (u, m1) ∧ Tx m m1 n u := by
  have h60 := h.1
  have T0 : TX m (ux (ux m 0 8 0) 0 9 0) := TX.p8.tr TX.p9
  obtain ⟨u2, m2, a2, b2, c2, d2⟩ := s_one (n := n) (r := 0) (h.tx T0) (by rw [ux_j (by decide), ux_at]; rfl) ux_at (by omega)
  have T2 := T0.tr b2
  unfold f_X5_isText
  rw [sb, sb, a2, sb]
  dsimp only
  rcases d2 with ⟨rfl, j, j1, j2, j3, j4, j5, j6⟩ | ⟨rfl, j1, j2, j3, j4, j5, j6, j7⟩
  · have st : f_X5_isText_15 4096 m2 0 = f_X5_isText_36 m2 0 := if_pos rfl
    rw [st]
    exact s_36 T2 h j4 j3 (fun i hi => (ft.tx T0).mp (j5 i (by omega) hi)) (j6.imp id (fun w v => w ((ft.tx T0).mpr v))) (by omega)
  · refine s_loop h 60 4096 0 m2 (by omega) j1 (by decide) T2 j2 c2 (fun i hi => (ft.tx T0).mp (j3 i (by omega) hi)) (fun t ht => ?_)
    have et : t = 0 := by omega
    subst et
    rw [j4, j5, j6, T0.1 4 (by decide) (by decide)]
    exact ⟨rfl, rfl, rfl⟩
/-- the first place that doesn't fit, on the ledger's side -/
theorem x_first {x m : XS} {n j : Nat} (h : Cd m n) (hl : x 0 6 = nI n) (hx : ∀ i, i < n → x 54 i = m 4 i) (hj : j ≤ n) (hf : ∀ i, i < j → ft m i) (hd : j = n ∨ ¬ ft m j) : f_X4_firstError x = some (nI j) := by
  have h60 := h.1
  have key : ∀ q f i, i + q = j → q < f → f_X4_firstError_2 x f (nI i) = some (nI j) := by
    have hc : ∀ i, i < n → f_X4_codeAt x (nI i) = some (m 4 i) := fun i hi => by
      unfold f_X4_codeAt
      have w1 : f_X4_isWithin (nI i) 0 59 = some 1 := by
        unfold f_X4_isWithin
        rw [if_neg (nI_pos (by omega)), if_neg (show ¬ (59 : Int32) < nI i from nI_nlt (b := i) (a := 59) (by omega) (by decide))]
      rw [w1, sb, if_neg (show ¬ (1 : Int32) = 0 by decide), ag (by omega), sb, hx i hi]
    have hr : ∀ i, i < n → nI i - nI i / 7 * 7 = nI (i % 7) := fun i hi => pk_rem (d := 7) (by omega) (by decide) (by decide)
    intro q
    induction q with
    | zero =>
      intro f i hq hf'
      cases f with
      | zero => omega
      | succ f =>
        have e : i = j := by omega
        subst e
        show (if x 0 6 ≤ nI i then _ else _) = _
        rw [hl]
        rcases hd with e | e
        · subst e
          rw [if_pos (Int32.le_refl _)]
        · by_cases en : i = n
          · subst en
            rw [if_pos (Int32.le_refl _)]
          · rw [if_neg (nI_ge (by omega) (by omega)), hc i (by omega), sb, hr i (by omega)]
            rcases fp_01 (s := i % 7) (by omega) (m 4 i) with w | w
            · rw [w, sb, if_pos rfl]
            · exact absurd w e
    | succ q ih =>
      intro f i hq hf'
      cases f with
      | zero => omega
      | succ f =>
        show (if x 0 6 ≤ nI i then _ else _) = _
        have w : f_X4_fitsPlace (nI (i % 7)) (m 4 i) = some 1 := hf i (by omega)
        rw [hl, if_neg (nI_ge (by omega) (by omega)), hc i (by omega), sb, hr i (by omega), w, sb, if_neg (show ¬ (1 : Int32) = 0 by decide), sb, nI_1]
        exact ih f (i + 1) (by omega) (by omega)
  exact key j 4096 0 (by omega) (by omega)
theorem op_11 : P_11 RI := by
  intro x m h
  obtain ⟨n, b1, b2, b3, b4⟩ := h.2.2.2
  have hC : Cd (ux m 0 6 0) n := ⟨b1, by rw [ux_j (by decide)]; exact b3, fun i hi => by rw [ux_k (by decide)]; exact (b4 i hi).2⟩
  obtain ⟨u, m1, e, t, j, j1, j2, j3, j4, j5⟩ := s_text hC
  have hX := x_first hC b2 (fun i hi => by rw [ux_k (by decide)]; exact (b4 i hi).1) j1 j3 j4
  unfold f_X5_firstError
  rw [hX, sb, e, sb]
  dsimp only
  rcases j5 with ⟨rfl, -⟩ | ⟨rfl, en, -⟩
  · rw [if_pos rfl]
    exact ⟨_, _, x, m1, rfl, rfl, j2.symm, t.R (h.thr 0)⟩
  · rw [if_neg (show ¬ (1 : Int32) = 0 by decide)]
    exact ⟨_, _, x, m1, rfl, rfl, by rw [t.2 5 (by decide) (by decide), ux_j (by decide), b3, en], t.R (h.thr 0)⟩
