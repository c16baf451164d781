/-! ===== top-ups ===== -/
def gvx (i : Nat) : Prop := (202 ≤ i ∧ ((i - 202) % 10 = 4 ∨ (i - 202) % 10 = 5)) ∨ (6 ≤ i ∧ i < 118 ∧ (i - 6) % 28 = 2)
theorem do_step {b : Nat} {x m : XS} (hS : Sim b x (m 1)) {N P c k a : Nat} (hI : InvNP (m 1) N P) (hc : c < N) (h0 : m 1 (205 + 10 * c) ≠ 0) (hk : kd (m 1) c k) (ha : hasA (m 1) k a) : ∃ x1 m1, f_X3_hand b x (nI c) (nI a) = some x1 ∧ f_X5_give m (nI c) (nI a) = some m1 ∧ FS b x m x1 m1 ∧ InvNP (m1 1) N P ∧ (∀ i, ¬ gvx i → m1 1 i = m 1 i) ∧ m1 1 (8 + 28 * k) - m 1 (8 + 28 * k) = tg (m1 1) N - tg (m 1) N ∧ m1 0 = m 0 := by
  have hN := hI.1
  have hk4 := hk.1
  have hc24 : c < 24 := by omega
  refine ⟨_, _, f_handX hS hN hI.2.1 hc hk ha, f_giveM hc24 hk ha, fs_hand hS hc24 hk4, ?_, ?_, ?_, ?_⟩
  · refine hI.give hc h0 hk ha ?_ ?_ (fun i i1 i2 i3 => ?_)
    · repeat rw [ux_j (by omega)]
      exact ux_at
    · exact ux_at
    · repeat rw [ux_j (by omega)]
  · intro i hi
    unfold gvx at hi
    repeat rw [ux_j (by omega)]
  · have e1 : (ux (ux (ux (m) 1 (8 + 28 * k) (m 1 (8 + 28 * k) + (m 1 (10 + 28 * k + 4 * a) - m 1 (207 + 10 * c)))) 1 (206 + 10 * c) (nI a)) 1 (207 + 10 * c) (m 1 (10 + 28 * k + 4 * a))) 1 (8 + 28 * k) = m 1 (8 + 28 * k) + (m 1 (10 + 28 * k + 4 * a) - m 1 (207 + 10 * c)) := by (repeat rw [ux_j (by omega)]); exact ux_at
    have e2 : (ux (ux (ux (m) 1 (8 + 28 * k) (m 1 (8 + 28 * k) + (m 1 (10 + 28 * k + 4 * a) - m 1 (207 + 10 * c)))) 1 (206 + 10 * c) (nI a)) 1 (207 + 10 * c) (m 1 (10 + 28 * k + 4 * a))) 1 (207 + 10 * c) = m 1 (10 + 28 * k + 4 * a) := ux_at
    have e3 := tg_put (z := m 1) (z1 := (ux (ux (ux (m) 1 (8 + 28 * k) (m 1 (8 + 28 * k) + (m 1 (10 + 28 * k + 4 * a) - m 1 (207 + 10 * c)))) 1 (206 + 10 * c) (nI a)) 1 (207 + 10 * c) (m 1 (10 + 28 * k + 4 * a))) 1) (c := c) (fun d hd => by repeat rw [ux_j (by omega)]) N hc
    rw [e2] at e3
    rw [e3, e1]
    grind
  · rw [ux_ne (by decide), ux_ne (by decide), ux_ne (by decide)]
theorem top2 {b : Nat} {x m : XS} (hS : Sim b x (m 1)) {N P c : Nat} (hI : InvNP (m 1) N P) (hc : c < N) :
    (f_X3_topUp b x (nI c) = some (0, x) ∧ ∀ n l tot, f_X5_topUps_9 (n + 1) m l tot (nI c) = f_X5_topUps_9 n m l tot (nI (c + 1))) ∨
    ∃ k p w x1 m1, kd (m 1) c k ∧ m 1 (210 + 10 * c) = nI p ∧ p < P ∧ ¬ w ≤ 0 ∧ f_X3_topUp b x (nI c) = some (w, x1) ∧ FS b x m x1 m1 ∧ InvNP (m1 1) N P ∧ (∀ i, ¬ gvx i → m1 1 i = m 1 i) ∧ m1 1 (8 + 28 * k) - m 1 (8 + 28 * k) = tg (m1 1) N - tg (m 1) N ∧ m1 0 7 = m 0 7 + 1 ∧
      (∀ n l tot, (l = -1 ∨ l = nI p) → f_X5_topUps_9 (n + 1) m l tot (nI c) = f_X5_topUps_9 n m1 l (tot + w) (nI (c + 1))) ∧ (∀ n l tot, l ≠ -1 → l ≠ nI p → f_X5_topUps_9 (n + 1) m l tot (nI c) = f_X5_topUps_9 n m l tot (nI (c + 1))) := by
  have hN := hI.1
  have eN := hI.2.1
  have hP := hI.P24
  obtain ⟨w, hw, h⟩ := top_step hS hI hc
  have h74 : ∀ n l tot w, f_X5_topUps_74 (f_X5_topUps_9 n) m l tot (nI c) w = f_X5_topUps_9 n m l tot (nI (c + 1)) := by
    intro n l tot w
    unfold f_X5_topUps_74 f_X5_topUps_75
    rw [if_pos rfl]
    unfold f_X5_topUps_125
    rw [sb, nI_1]
  have hst : ∀ n l tot, f_X5_topUps_9 (n + 1) m l tot (nI c) = if w ≤ 0 then f_X5_topUps_74 (f_X5_topUps_9 n) m l tot (nI c) w else (if l = -1 then f_X5_topUps_52 (f_X5_topUps_9 n) m l tot (nI c) w else (if m 1 (210 + 10 * c) = l then f_X5_topUps_52 (f_X5_topUps_9 n) m l tot (nI c) w else f_X5_topUps_74 (f_X5_topUps_9 n) m l tot (nI c) w)) := by
    intro n l tot
    show (aget 442 (m 1) 0).bind _ = _
    rw [ag' (e := 0) (n := 442) 0 rfl (by decide), sb, eN, if_neg (nI_ge hc (by omega)), hw, sb, f_of, sb, ag' (e := nI (202 + 10 * c) + 8) (n := 442) (210 + 10 * c) (nI_p _ 8 (by omega)) (by omega), sb]
  rcases h with ⟨w0, ht⟩ | ⟨w0, k, p, a, hk, hp, e1, e2, ha, h0, ew, h⟩
  · exact Or.inl ⟨ht, fun n l tot => by rw [hst, if_pos w0, h74]⟩
  · have h52 : ∀ n l tot, f_X5_topUps_52 (f_X5_topUps_9 n) m l tot (nI c) w = if m 1 (7 + 28 * k) - m 1 (8 + 28 * k) < w then f_X5_topUps_74 (f_X5_topUps_9 n) m l tot (nI c) w else f_X5_topUps_75 (f_X5_topUps_9 n) m l tot (nI c) w 1 := by
      intro n l tot
      unfold f_X5_topUps_52
      rw [f_of, sb, ag (by omega), sb, hk.2, f_left5 hk.1, sb]
    rcases h with ⟨l0, ht⟩ | ⟨l0, x1, hx1, ht⟩
    · refine Or.inl ⟨ht, fun n l tot => ?_⟩
      rw [hst, if_neg w0, h52, if_pos l0, h74]
      simp only [ite_self]
    · right
      obtain ⟨x1', m1, g1, g2, g3, g4, g5, g6, g7⟩ := do_step hS hI hc h0 hk ha
      have ex : x1 = x1' := Option.some.inj (hx1.symm.trans g1)
      subst ex
      have u1 : (ux m1 0 7 (m1 0 7 + 1)) 1 = m1 1 := ux_ne (by decide)
      refine ⟨k, p, w, x1, ux m1 0 7 (m1 0 7 + 1), hk, e1, hp, w0, ht, g3.tell _, by rw [u1]; exact g4, fun i hi => by rw [u1]; exact g5 i hi, by rw [u1]; exact g6, by rw [ux_at, g7], fun n l tot hl => ?_, fun n l tot l1 l2 => ?_⟩
      · have h75 : f_X5_topUps_75 (f_X5_topUps_9 n) m l tot (nI c) w 1 = f_X5_topUps_9 n (ux m1 0 7 (m1 0 7 + 1)) l (tot + w) (nI (c + 1)) := by
          unfold f_X5_topUps_75
          rw [if_neg (show ¬ (1 : Int32) = 0 by decide), f_of, sb, ag' (e := nI (202 + 10 * c) + 8) (n := 442) (210 + 10 * c) (nI_p _ 8 (by omega)) (by omega), sb, e1, e_pr, ag (by omega), sb, e2, g2, sb, sb, sb]
          unfold f_X5_topUps_125
          rw [sb, nI_1]
        rw [hst, if_neg w0, h52, if_neg l0, h75, e1]
        rcases hl with rfl | rfl
        · rw [if_pos rfl]
        · rw [if_neg (show ¬ nI p = -1 from fun w => nI_pos (n := p) (by omega) (by rw [w]; decide)), if_pos rfl]
      · rw [hst, if_neg w0, if_neg l1, e1, if_neg (fun q => l2 q.symm), h74]
theorem judge_loop {b N P c0 k p : Nat} (hc0 : c0 < N) (hp : p < 24) : ∀ q n c (x m : XS) (tot : Int32), c + q = N → q < n → Sim b x (m 1) → InvNP (m 1) N P → m 1 (210 + 10 * c0) = nI p → kd (m 1) c0 k →
    ∃ x1 m1 t1, f_X3_makeJudgement_91 b n x (nI p) (m 0 7) (nI c) = some (m1 0 7, x1) ∧ f_X5_topUps_9 n m (nI p) tot (nI c) = some (t1, m1) ∧ FS b x m x1 m1 ∧ InvNP (m1 1) N P ∧ (∀ i, ¬ gvx i → m1 1 i = m 1 i) ∧ m1 1 (8 + 28 * k) - m 1 (8 + 28 * k) = tg (m1 1) N - tg (m 1) N := by
  intro q
  induction q with
  | zero =>
    intro n c x m tot hq hn hS hI hf hk
    have hN := hI.1
    have eN := hI.2.1
    cases n with
    | zero => omega
    | succ n =>
      have e : c = N := by omega
      subst e
      refine ⟨x, m, tot, ?_, ?_, FS.rf hS, hI, fun _ _ => rfl, by rw [Int32.sub_self, Int32.sub_self]⟩
      · show (if x (b + 7) 0 ≤ nI c then _ else _) = _
        rw [sm_N hS, eN, if_pos (Int32.le_refl _)]
      · show (aget 442 (m 1) 0).bind _ = _
        rw [ag' (e := 0) (n := 442) 0 rfl (by decide), sb, eN, if_pos (Int32.le_refl _)]
  | succ q ih =>
    intro n c x m tot hq hn hS hI hf hk
    have hN := hI.1
    have eN := hI.2.1
    cases n with
    | zero => omega
    | succ n =>
      have hc : c < N := by omega
      have h129 : ∀ (x : XS) (u : Int32), f_X3_makeJudgement_129 b (f_X3_makeJudgement_91 b n) x (nI p) u (nI c) = f_X3_makeJudgement_91 b n x (nI p) u (nI (c + 1)) := by
        intro x u
        unfold f_X3_makeJudgement_129
        rw [sb, nI_1]
      have hX : f_X3_makeJudgement_91 b (n + 1) x (nI p) (m 0 7) (nI c) = if m 1 (210 + 10 * c) = nI p then ((f_X3_topUp b x (nI c)).bind fun q120 => if q120.1 ≤ 0 then f_X3_makeJudgement_129 b (f_X3_makeJudgement_91 b n) q120.2 (nI p) (m 0 7) (nI c) else f_X3_makeJudgement_129 b (f_X3_makeJudgement_91 b n) q120.2 (nI p) (m 0 7 + 1) (nI c)) else f_X3_makeJudgement_129 b (f_X3_makeJudgement_91 b n) x (nI p) (m 0 7) (nI c) := by
        show (if x (b + 7) 0 ≤ nI c then _ else _) = _
        rw [sm_N hS, eN, if_neg (nI_ge hc (by omega)), f_folOf hS hN eN hc, sb]
        rfl
      rcases top2 hS hI hc with ⟨ht, hM⟩ | ⟨k', p', w, x1, m1, c1, c2, c3, c4, c5, c6, c7, c8, c9, c10, c11, c12⟩
      · obtain ⟨x1, m1, t1, i1, i2, i3⟩ := ih n (c + 1) x m tot (by omega) (by omega) hS hI hf hk
        refine ⟨x1, m1, t1, ?_, by rw [hM]; exact i2, i3⟩
        rw [hX, ht, sb, if_pos (show (0 : Int32) ≤ 0 from Int32.le_refl _), h129]
        simp only [ite_self]
        exact i1
      · by_cases q2 : p' = p
        · subst q2
          have hk1 : kd (m1 1) c0 k := ⟨hk.1, by rw [c8 _ (by unfold gvx; omega)]; exact hk.2⟩
          obtain ⟨x2, m2, t2, i1, i2, i3, i4, i5, i6⟩ := ih n (c + 1) x1 m1 (tot + w) (by omega) (by omega) c6.1 c7 (by rw [c8 _ (by unfold gvx; omega)]; exact hf) hk1
          refine ⟨x2, m2, t2, ?_, by rw [c11 _ _ _ (Or.inr rfl)]; exact i2, c6.tr i3, i4, fun i hi => (i5 i hi).trans (c8 i hi), ?_⟩
          · rw [hX, if_pos c2, c5, sb, if_neg c4, h129, ← c10]
            exact i1
          · obtain ⟨-, -, k1, s1, a1, d1, d2, d3, d4, -⟩ := hI.fol hc0 hp hf
            obtain ⟨-, -, k2, s2, a2, f1, f2, f3, f4, -⟩ := hI.fol hc hp c2
            have es : s1 = s2 := (nI_eq (by omega) (by omega)).mp (d2.symm.trans f2)
            subst es
            have ek : k' = k := (c1.uniq f1).trans ((f4.uniq d4).trans (d1.uniq hk))
            subst ek
            grind
        · have hne : ¬ nI p = nI p' := fun e => q2 ((nI_eq (by omega) (by have := hI.P24; omega)).mp e).symm
          obtain ⟨x2, m2, t2, i1, i2, i3⟩ := ih n (c + 1) x m tot (by omega) (by omega) hS hI hf hk
          refine ⟨x2, m2, t2, ?_, by rw [c12 _ _ _ (show ¬ nI p = -1 from fun w => nI_pos (n := p) (by omega) (by rw [w]; decide)) hne]; exact i2, i3⟩
          rw [hX, if_neg (fun e => hne (e.symm.trans c2)), h129]
          exact i1
theorem turn_loop {b N P : Nat} : ∀ q n c (x m : XS) (tot : Int32), c + q = N → q < n → Sim b x (m 1) → InvNP (m 1) N P →
    ∃ x1 m1 t1, f_X3_turnMonth_61 b n x tot (nI c) = some (t1, x1) ∧ f_X5_topUps_9 n m (-1) tot (nI c) = some (t1, m1) ∧ FS b x m x1 m1 ∧ InvNP (m1 1) N P ∧ (∀ i, ¬ gvx i → m1 1 i = m 1 i) := by
  intro q
  induction q with
  | zero =>
    intro n c x m tot hq hn hS hI
    have hN := hI.1
    have eN := hI.2.1
    cases n with
    | zero => omega
    | succ n =>
      have e : c = N := by omega
      subst e
      refine ⟨x, m, tot, ?_, ?_, FS.rf hS, hI, fun _ _ => rfl⟩
      · show (if x (b + 7) 0 ≤ nI c then _ else _) = _
        rw [sm_N hS, eN, if_pos (Int32.le_refl _)]
      · show (aget 442 (m 1) 0).bind _ = _
        rw [ag' (e := 0) (n := 442) 0 rfl (by decide), sb, eN, if_pos (Int32.le_refl _)]
  | succ q ih =>
    intro n c x m tot hq hn hS hI
    have hN := hI.1
    have eN := hI.2.1
    cases n with
    | zero => omega
    | succ n =>
      have hc : c < N := by omega
      have hX : f_X3_turnMonth_61 b (n + 1) x tot (nI c) = (f_X3_topUp b x (nI c)).bind fun q75 => f_X3_turnMonth_61 b n q75.2 (tot + q75.1) (nI (c + 1)) := by
        show (if x (b + 7) 0 ≤ nI c then _ else _) = _
        rw [sm_N hS, eN, if_neg (nI_ge hc (by omega)), ← nI_1]
        rfl
      rcases top2 hS hI hc with ⟨ht, hM⟩ | ⟨k', p', w, x1, m1, c1, c2, c3, c4, c5, c6, c7, c8, c9, c10, c11, c12⟩
      · obtain ⟨x1, m1, t1, i1, i2, i3⟩ := ih n (c + 1) x m tot (by omega) (by omega) hS hI
        refine ⟨x1, m1, t1, ?_, by rw [hM]; exact i2, i3⟩
        rw [hX, ht, sb, Int32.add_zero]
        exact i1
      · obtain ⟨x2, m2, t2, i1, i2, i3, i4, i5⟩ := ih n (c + 1) x1 m1 (tot + w) (by omega) (by omega) c6.1 c7
        refine ⟨x2, m2, t2, ?_, by rw [c11 _ _ _ (Or.inl rfl)]; exact i2, c6.tr i3, i4, fun i hi => (i5 i hi).trans (c8 i hi)⟩
        rw [hX, c5, sb]
        exact i1
