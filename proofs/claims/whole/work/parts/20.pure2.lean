/-! ===== what always holds of the numbers ===== -/
def cnt (f : Nat → Prop) [DecidablePred f] : Nat → Nat
  | 0 => 0
  | n + 1 => cnt f n + if f n then 1 else 0
def hasA (z : ZS) (k a : Nat) : Prop := ∃ s : Nat, s ≤ 6 ∧ z (9 + 28 * k) = nI s ∧ a < s
def kd (z : ZS) (c k : Nat) : Prop := k < 4 ∧ z (202 + 10 * c) = nI k
def CoOK (z : ZS) (P c : Nat) : Prop := ∃ k, kd z c k ∧ (∃ v : Nat, 1 ≤ v ∧ v ≤ 9 ∧ z (203 + 10 * c) = nI v) ∧ ∃ st : Nat, st ≤ 3 ∧ z (205 + 10 * c) = nI st ∧
  (st = 0 → z (206 + 10 * c) = -1 ∧ z (207 + 10 * c) = 0 ∧ z (208 + 10 * c) = -1 ∧ z (209 + 10 * c) = -1 ∧ z (210 + 10 * c) = -1 ∧ z (211 + 10 * c) = 0) ∧
  (st ≠ 0 → (∃ a, hasA z k a ∧ z (206 + 10 * c) = nI a ∧ z (207 + 10 * c) = z (10 + 28 * k + 4 * a)) ∧
    ((z (211 + 10 * c) = 3 ∧ z (210 + 10 * c) = -1) ∨ ∃ p s, p < P ∧ z (210 + 10 * c) = nI p ∧ z (132 + 3 * p) = nI s ∧ s < 24 ∧ kd z s k ∧ z (211 + 10 * c) = if s = c then 1 else 2))
def PrOK (z : ZS) (N p : Nat) : Prop := ∃ s, s < N ∧ z (132 + 3 * p) = nI s ∧ z (205 + 10 * s) ≠ 0 ∧ ∃ k, kd z s k ∧ ∃ a, hasA z k a ∧ z (130 + 3 * p) = nI a
def LtOK (z : ZS) (P i : Nat) : Prop := z (118 + i) = -1 ∨ ∃ p s, p < P ∧ z (118 + i) = nI p ∧ z (132 + 3 * p) = nI s ∧ s < 24 ∧ z (202 + 10 * s) = nI (i / 3)
def InvNP (z : ZS) (N P : Nat) : Prop := N ≤ 24 ∧ z 0 = nI N ∧ (∃ mo : Nat, mo ≤ 1000 ∧ z 1 = nI mo) ∧ z 5 = nI P ∧ P ≤ cnt (fun c => z (205 + 10 * c) ≠ 0) N ∧ (∀ k, k < 4 → ∃ s : Nat, s ≤ 6 ∧ z (9 + 28 * k) = nI s) ∧ (∀ c, c < N → CoOK z P c) ∧ (∀ p, p < P → PrOK z N p) ∧ ∀ i, i < 12 → LtOK z P i
def Fl (z : ZS) : Prop := (∀ k a, k < 4 → a < 6 → z (13 + 28 * k + 4 * a) = 0 ∨ z (13 + 28 * k + 4 * a) = 1) ∧ ∃ mo : Nat, mo ≤ 500 ∧ z 1 = nI mo
def Inv (z : ZS) : Prop := (∃ N P : Nat, InvNP z N P) ∧ Fl z
def rel0 (i : Nat) : Prop := i = 0 ∨ i = 5 ∨ i = 1 ∨ (6 ≤ i ∧ i < 118 ∧ ((i - 6) % 28 = 3 ∨ (4 ≤ (i - 6) % 28 ∧ (i - 6) % 4 = 0))) ∨ (118 ≤ i ∧ i < 442)
def isfl (i : Nat) : Prop := i = 1 ∨ (6 ≤ i ∧ i < 118 ∧ 4 ≤ (i - 6) % 28 ∧ (i - 6) % 4 = 3)
def rel (i : Nat) : Prop := rel0 i ∨ isfl i
theorem Fl.irr {z z1 : ZS} (hz : ∀ i, isfl i → z1 i = z i) (h : Fl z) : Fl z1 := ⟨fun k a hk ha => by rw [hz _ (by unfold isfl; omega)]; exact h.1 k a hk ha, by rw [hz 1 (Or.inl rfl)]; exact h.2⟩
theorem cnt_congr {f g : Nat → Prop} [DecidablePred f] [DecidablePred g] : ∀ n, (∀ c, c < n → (f c ↔ g c)) → cnt f n = cnt g n := by
  intro n
  induction n with
  | zero => intro _; rfl
  | succ n ih =>
    intro h
    show cnt f n + _ = cnt g n + _
    rw [ih (fun c hc => h c (by omega))]
    by_cases hf : f n
    · rw [if_pos hf, if_pos ((h n (by omega)).mp hf)]
    · rw [if_neg hf, if_neg (fun q => hf ((h n (by omega)).mpr q))]
theorem cnt_le {f : Nat → Prop} [DecidablePred f] : ∀ n, cnt f n ≤ n := by
  intro n
  induction n with
  | zero => exact Nat.le_refl 0
  | succ n ih => show cnt f n + (if f n then 1 else 0) ≤ n + 1; split <;> omega
theorem hasA.irr {z z1 : ZS} {k a : Nat} (hk : k < 4) (hz : ∀ i, rel0 i → z1 i = z i) (h : hasA z k a) : hasA z1 k a := by
  obtain ⟨s, h0, h1, h2⟩ := h
  exact ⟨s, h0, by rw [hz _ (by unfold rel0; omega), h1], h2⟩
theorem kd.irr {z z1 : ZS} {c k : Nat} (hc : c < 24) (hz : ∀ i, rel0 i → z1 i = z i) (h : kd z c k) : kd z1 c k := ⟨h.1, by rw [hz _ (by unfold rel0; omega), h.2]⟩
theorem CoOK.irr {z z1 : ZS} {P c : Nat} (hP : P ≤ 24) (hc : c < 24) (hz : ∀ i, rel0 i → z1 i = z i) (h : CoOK z P c) : CoOK z1 P c := by
  obtain ⟨k, h1, ⟨v, v1, v2, v3⟩, st, s1, s2, s3, s4⟩ := h
  refine ⟨k, h1.irr hc hz, ⟨v, v1, v2, by rw [hz _ (by unfold rel0; omega), v3]⟩, st, s1, by rw [hz _ (by unfold rel0; omega), s2], fun e => ?_, fun e => ?_⟩
  · rw [hz _ (by unfold rel0; omega), hz _ (by unfold rel0; omega), hz _ (by unfold rel0; omega), hz _ (by unfold rel0; omega), hz _ (by unfold rel0; omega), hz _ (by unfold rel0; omega)]
    exact s3 e
  · obtain ⟨⟨a, a1, a2, a3⟩, b⟩ := s4 e
    have ha : a < 6 := by obtain ⟨s, q0, q1, q2⟩ := a1; omega
    have hk := h1.1
    refine ⟨⟨a, a1.irr h1.1 hz, by rw [hz _ (by unfold rel0; omega), a2], by rw [hz _ (by unfold rel0; omega), hz _ (by unfold rel0; omega), a3]⟩, ?_⟩
    rw [hz (211 + 10 * c) (by unfold rel0; omega), hz (210 + 10 * c) (by unfold rel0; omega)]
    rcases b with b | ⟨p, s, b1, b2, b3, b4, b5, b6⟩
    · exact Or.inl b
    · exact Or.inr ⟨p, s, b1, b2, by rw [hz _ (by unfold rel0; omega), b3], b4, b5.irr b4 hz, b6⟩
theorem PrOK.irr {z z1 : ZS} {N p : Nat} (hN : N ≤ 24) (hp : p < 24) (hz : ∀ i, rel0 i → z1 i = z i) (h : PrOK z N p) : PrOK z1 N p := by
  obtain ⟨s, s1, s2, s3, k, k1, a, a1, a2⟩ := h
  exact ⟨s, s1, by rw [hz _ (by unfold rel0; omega), s2], by rw [hz _ (by unfold rel0; omega)]; exact s3, k, k1.irr (by omega) hz, a, a1.irr k1.1 hz, by rw [hz _ (by unfold rel0; omega), a2]⟩
theorem LtOK.irr {z z1 : ZS} {P i : Nat} (hP : P ≤ 24) (hi : i < 12) (hz : ∀ i, rel0 i → z1 i = z i) (h : LtOK z P i) : LtOK z1 P i := by
  unfold LtOK
  rw [hz (118 + i) (by unfold rel0; omega)]
  rcases h with h | ⟨p, s, b1, b2, b3, b4, b5⟩
  · exact Or.inl h
  · exact Or.inr ⟨p, s, b1, b2, by rw [hz _ (by unfold rel0; omega), b3], b4, by rw [hz _ (by unfold rel0; omega), b5]⟩
theorem InvNP.P24 {z : ZS} {N P : Nat} (h : InvNP z N P) : P ≤ 24 := Nat.le_trans h.2.2.2.2.1 (Nat.le_trans (cnt_le _) h.1)
theorem InvNP.irr {z z1 : ZS} {N P : Nat} (hz : ∀ i, rel0 i → z1 i = z i) (h : InvNP z N P) : InvNP z1 N P := by
  have hP := h.P24
  obtain ⟨h1, h2, ⟨mo, o1, o2⟩, h3, h4, h5, h6, h7, h8⟩ := h
  refine ⟨h1, by rw [hz _ (Or.inl rfl), h2], ⟨mo, o1, by rw [hz _ (Or.inr (Or.inr (Or.inl rfl))), o2]⟩, by rw [hz _ (Or.inr (Or.inl rfl)), h3], ?_, fun k hk => ?_, fun c hc => (h6 c hc).irr hP (by omega) hz, fun p hp => (h7 p hp).irr h1 (by omega) hz, fun i hi => (h8 i hi).irr hP hi hz⟩
  · rw [cnt_congr (g := fun c => z (205 + 10 * c) ≠ 0) N (fun c hc => by rw [hz _ (by unfold rel0; omega)])]
    exact h4
  · obtain ⟨s, s1, s2⟩ := h5 k hk
    exact ⟨s, s1, by rw [hz _ (by unfold rel0; omega), s2]⟩
theorem Inv.irr {z z1 : ZS} (hz : ∀ i, rel i → z1 i = z i) (h : Inv z) : Inv z1 := by
  obtain ⟨⟨N, P, h⟩, hf⟩ := h
  exact ⟨⟨N, P, h.irr (fun i hi => hz i (Or.inl hi))⟩, hf.irr (fun i hi => hz i (Or.inr hi))⟩
theorem rel_lt {i : Nat} (h : rel i) : i < 442 := by unfold rel rel0 isfl at h; omega
theorem Inv.cong : ∀ z z1 : ZS, (∀ i, i < 442 → z1 i = z i) → Inv z → Inv z1 := fun _ _ hz h => h.irr (fun i hi => hz i (rel_lt hi))
abbrev RI : XS → XS → Prop := RR Inv
theorem RR.step {J : ZS → Prop} {x m x1 m1 : XS} (h : RR J x m) (hS : Sim 1 x1 (m1 1)) (hj : J (m1 1)) (hx : ∀ q, q = 0 ∨ 53 ≤ q → x1 q = x q) (h3 : m1 0 3 = m 0 3) (h5 : m1 0 5 = m 0 5) (h2 : m1 2 = m 2) (h4 : m1 4 = m 4) : RR J x1 m1 :=
  ⟨hS, hj, h.2.2.1.of (fun j _ => by rw [hx 0 (Or.inl rfl)]) h3 (fun q hq => hx q (Or.inr (by omega))) h2, h.2.2.2.of (by rw [hx 0 (Or.inl rfl)]) h5 (hx 54 (Or.inr (by decide))) h4⟩
theorem RR.thr {J : ZS → Prop} {x m : XS} (h : RR J x m) (v : Int32) : RR J x (ux m 0 6 v) :=
  h.step (by rw [ux_ne (by decide)]; exact h.1) (by rw [ux_ne (by decide)]; exact h.2.1) (fun _ _ => rfl) (ux_j (by decide)) (ux_j (by decide)) (ux_ne (by decide)) (ux_ne (by decide))
theorem f_fails (m : XS) (v : Int32) : f_X5_fails m v = some (0, ux m 0 6 v) := rfl
theorem in_eq (a b c : Int32) : f_X5_in a b c = f_X4_isWithin a b c := rfl
theorem wi_01 (a b c : Int32) : f_X4_isWithin a b c = some 0 ∨ f_X4_isWithin a b c = some 1 := by
  unfold f_X4_isWithin
  split
  · exact Or.inl rfl
  · split
    · exact Or.inl rfl
    · exact Or.inr rfl
theorem within_cases (a : Int32) (lo hi : Nat) (hl : lo < 2 ^ 30) (hh : hi < 2 ^ 30) : f_X4_isWithin a (nI lo) (nI hi) = some 0 ∨ ∃ v : Nat, lo ≤ v ∧ v ≤ hi ∧ a = nI v ∧ f_X4_isWithin a (nI lo) (nI hi) = some 1 := by
  unfold f_X4_isWithin
  by_cases h1 : a < nI lo
  · rw [if_pos h1]; exact Or.inl rfl
  · rw [if_neg h1]
    by_cases h2 : nI hi < a
    · rw [if_pos h2]; exact Or.inl rfl
    · rw [if_neg h2]
      refine Or.inr ?_
      rcases pk_ix a (n := hi + 1) (by omega) with h | h | ⟨j, hj, rfl⟩
      · exact absurd (Int32.lt_of_lt_of_le h (nI_pos' (by omega))) h1
      · exact absurd (Int32.lt_of_lt_of_le (nI_lt (Nat.lt_succ_self hi) (by omega)) h) h2
      · refine ⟨j, Classical.byContradiction fun q => h1 (nI_lt (by omega) (by omega)), by omega, rfl, rfl⟩
theorem kind_cases (a : Int32) : (f_X4_isKind a = some 0 ∧ f_X5_isKind a = some 0) ∨ ∃ k, k < 4 ∧ a = nI k ∧ f_X4_isKind a = some 1 ∧ f_X5_isKind a = some 1 := by
  unfold f_X5_isKind f_X4_isKind
  rw [in_eq]
  rcases pk_ix a (n := 4) (by decide) with h | h | ⟨j, hj, rfl⟩
  · refine Or.inl ⟨if_pos h, ?_⟩
    rw [show f_X4_isWithin a 0 3 = some 0 from if_pos h]; rfl
  · have h0 : ¬ a < 0 := fun q => absurd (Int32.lt_of_le_of_lt h q) (by decide)
    refine Or.inl ⟨by rw [if_neg h0]; exact if_pos h, ?_⟩
    have h3 : (3 : Int32) < a := Int32.lt_of_lt_of_le (by decide) h
    rw [show f_X4_isWithin a 0 3 = some 0 by unfold f_X4_isWithin; rw [if_neg h0, if_pos h3]]; rfl
  · refine Or.inr ⟨j, hj, rfl, ?_⟩
    rcases (show j = 0 ∨ j = 1 ∨ j = 2 ∨ j = 3 by omega) with rfl | rfl | rfl | rfl <;> decide +kernel
theorem set_cases (a : Int32) : (f_X4_isSetting a = some 0 ∧ f_X5_in a 0 2 = some 0) ∨ ∃ k, k < 3 ∧ a = nI k ∧ f_X4_isSetting a = some 1 ∧ f_X5_in a 0 2 = some 1 := by
  rw [in_eq]
  unfold f_X4_isSetting
  rcases pk_ix a (n := 3) (by decide) with h | h | ⟨j, hj, rfl⟩
  · exact Or.inl ⟨if_pos h, if_pos h⟩
  · have h0 : ¬ a < 0 := fun q => absurd (Int32.lt_of_le_of_lt h q) (by decide)
    have h3 : (2 : Int32) < a := Int32.lt_of_lt_of_le (by decide) h
    exact Or.inl ⟨by rw [if_neg h0]; exact if_pos h, by unfold f_X4_isWithin; rw [if_neg h0, if_pos h3]⟩
  · refine Or.inr ⟨j, hj, rfl, ?_⟩
    rcases (show j = 0 ∨ j = 1 ∨ j = 2 by omega) with rfl | rfl | rfl <;> decide +kernel
theorem op_19 : P_19 RI := by
  intro x m a h
  unfold f_X4_setting t_X4_setting f_X5_setting f_X3_settingOf
  rcases set_cases a with ⟨h1, h2⟩ | ⟨k, hk, rfl, h1, h2⟩
  · rw [h1, h2]
    exact Or.inr ⟨1, 1, 0, ux (ux m 0 6 0) 0 6 1, ⟨rfl, rfl⟩, rfl, rfl, ux_at, (h.thr 0).thr 1⟩
  · rw [h1, h2]
    refine Or.inl ⟨m 1 (2 + k), x, ux m 0 6 0, ?_, ?_, ux_at, h.thr 0⟩
    · simp only [sb]
      rw [show f_X4_requireIndex 1 = some () from rfl, sb, if_neg (by decide), ag hk, sb, sb, ← sm_set h.1 hk]
    · simp only [sb]
      rw [if_neg (by decide), ag' (e := 2 + nI k) (n := 442) (2 + k) (nI_add 2 k) (by omega), sb, ux_ne (by decide)]
theorem op_10 : P_10 RI := by
  intro x m h
  have hS := h.1; have hj := h.2.1; have hv := h.2.2.1
  obtain ⟨n, b1, b2, b3, b4⟩ := h.2.2.2
  refine ⟨x 0 6, m 0 5, ux x 0 6 0, ux (ux m 0 6 0) 0 5 0, rfl, ?_, by rw [b2, b3], ?_⟩
  · show some (ux m 0 6 0 0 5, _) = _
    rw [ux_j (by decide)]
  · have e : (ux (ux m 0 6 0) 0 5 0) 1 = m 1 := by rw [ux_ne (by decide), ux_ne (by decide)]
    refine ⟨by rw [e]; exact hS.out (Or.inl (by decide)), by rw [e]; exact hj, hv.of (fun j hj => ux_j (by omega)) (by rw [ux_j (by decide), ux_j (by decide)]) (fun q hq => ux_ne (by omega)) (by rw [ux_ne (by decide), ux_ne (by decide)]), 0, by decide, ux_at, ux_at, fun i hi => absurd hi (Nat.not_lt_zero i)⟩
theorem op_9 : P_9 RI := by
  intro x m a h
  have hS := h.1; have hj := h.2.1; have hv := h.2.2.1
  obtain ⟨n, b1, b2, b3, b4⟩ := h.2.2.2
  unfold f_X4_append t_X4_append f_X5_append
  rw [in_eq]
  rcases within_cases a 33 126 (by decide) (by decide) with h1 | ⟨v, v1, v2, rfl, h1⟩
  · have h1 : f_X4_isWithin a 33 126 = some 0 := h1
    rw [h1]
    exact Or.inr ⟨2, 1, 0, ux (ux m 0 6 0) 0 6 1, Or.inl ⟨rfl, rfl⟩, rfl, rfl, ux_at, (h.thr 0).thr 1⟩
  · have h1 : f_X4_isWithin (nI v) 33 126 = some 1 := h1
    rw [h1, b2]
    simp only [sb]
    rw [show f_X4_requireArgument 1 = some () from rfl, ux_j (show 5 ≠ 6 by decide), b3]
    by_cases h6 : n = 60
    · subst h6
      rw [if_pos (show (60 : Int32) ≤ nI 60 by decide)]
      refine Or.inr ⟨3, 2, 0, ux (ux m 0 6 0) 0 6 2, Or.inr ⟨rfl, rfl⟩, rfl, ?_, ux_at, (h.thr 0).thr 2⟩
      rw [if_neg (by decide), if_pos (show nI 60 = (60 : Int32) from rfl)]
      rfl
    · rw [if_neg (show ¬ (60 : Int32) ≤ nI n from nI_ge (a := n) (b := 60) (by omega) (by decide))]
      refine Or.inl ⟨nI (n + 1), ux (ux x 54 n (nI v)) 0 6 (nI (n + 1)), ux (ux (ux m 0 6 0) 4 n (nI v)) 0 5 (nI (n + 1)), ?_, ?_, by rw [ux_j (by decide), ux_k (by decide), ux_at], ?_⟩
      · unfold f_X4_append_25
        rw [show f_X4_requireState 1 = some () from rfl, sb, sb, b2, asn (by omega), sb, sb, ux_at, ux_k (by decide), b2, nI_1]
      · rw [if_neg (by decide), if_neg (fun e => h6 ((nI_eq (by omega) (by decide)).mp (e.trans rfl))), asn (by omega), sb, ux_at, ux_k (by decide), ux_j (by decide), b3, nI_1]
      · have e : (ux (ux (ux m 0 6 0) 4 n (nI v)) 0 5 (nI (n + 1))) 1 = m 1 := by rw [ux_ne (by decide), ux_ne (by decide), ux_ne (by decide)]
        refine ⟨by rw [e]; exact (hS.out (Or.inr (by decide))).out (Or.inl (by decide)), by rw [e]; exact hj, ?_, n + 1, by omega, ux_at, ux_at, fun i hi => ?_⟩
        · obtain ⟨c, s, a1, a2, a3, a4, a5, a6⟩ := hv
          refine ⟨c, s, a1, a2, by rw [ux_j (by decide), ux_k (by decide)]; exact a3, by rw [ux_j (by decide), ux_k (by decide)]; exact a4, by rw [ux_j (by decide), ux_k (by decide), ux_j (by decide)]; exact a5, fun q hq => ?_⟩
          have e2 : zrow (ux (ux (ux m 0 6 0) 4 n (nI v)) 0 5 (nI (n + 1))) q = zrow m q := by funext i; unfold zrow; rw [ux_k (by decide), ux_k (by decide), ux_k (by decide)]
          rw [e2]
          exact ⟨(a6 q hq).1.frame (fun j _ => by unfold slotAt; rw [ux_ne (by omega), ux_ne (by omega)]), (a6 q hq).2⟩
        · rw [show (ux (ux x 54 n (nI v)) 0 6 (nI (n + 1))) 54 i = ux x 54 n (nI v) 54 i from ux_k (by decide), show ux (ux (ux m 0 6 0) 4 n (nI v)) 0 5 (nI (n + 1)) 4 i = ux (ux m 0 6 0) 4 n (nI v) 4 i from ux_k (by decide)]
          by_cases hi2 : i = n
          · subst hi2
            rw [ux_at, ux_at]
            exact ⟨rfl, v, v1, v2, rfl⟩
          · rw [ux_j hi2, ux_j hi2, ux_k (by decide)]
            exact b4 i (by omega)
theorem f_at {k : Nat} : f_X5_at (nI k) = some (nI (6 + 28 * k)) := by
  show some (nI 6 + nI 28 * nI k) = _
  rw [pk_mul, nI_add]
theorem f_of {c : Nat} : f_X5_of (nI c) = some (nI (202 + 10 * c)) := by
  show some (nI 202 + nI 10 * nI c) = _
  rw [pk_mul, nI_add]
theorem f_menuAt {k a : Nat} : f_X5_menuAt (nI k) (nI a) = some (nI (10 + 28 * k + 4 * a)) := by
  unfold f_X5_menuAt
  rw [f_at, sb]
  show some (nI (6 + 28 * k) + nI 4 + nI 4 * nI a) = _
  rw [pk_mul, nI_add, nI_add, show 6 + 28 * k + 4 + 4 * a = 10 + 28 * k + 4 * a by omega]
theorem zx_set {j : Nat} (hj : j < 3) : zx 22 j = some (2 + j) := if_pos hj
theorem zx_base {k : Nat} (hk : k < 4) : zx 23 k = some (6 + 28 * k) := if_pos hk
theorem zx_bud {k : Nat} (hk : k < 4) : zx 24 k = some (7 + 28 * k) := if_pos hk
theorem zx_spent {k : Nat} (hk : k < 4) : zx 25 k = some (8 + 28 * k) := if_pos hk
theorem zx_size {k : Nat} (hk : k < 4) : zx 2 k = some (9 + 28 * k) := if_pos hk
theorem zx_lat {i : Nat} (hi : i < 12) : zx 21 i = some (118 + i) := if_pos hi
/-- a number of the model written, and the same in the first block -/
theorem RR.put {J : ZS → Prop} {x m : XS} (h : RR J x m) {off slot i : Nat} (hi : zx off slot = some i) (v : Int32) (hj : J (upd (m 1) i v)) : RR J (ux x (1 + off) slot v) (ux m 1 i v) := by
  have ho := (zx_lt hi).1
  refine h.step ?_ ?_ (fun q hq => ux_ne (by omega)) (ux_k (by decide)) (ux_k (by decide)) (ux_ne (by decide)) (ux_ne (by decide))
  · rw [ux_eq]; exact h.1.put hi v
  · rw [ux_eq]; exact hj
theorem op_3 : P_3 RI := by
  intro x m a a2 h
  unfold f_X4_set t_X4_set f_X5_set
  rcases set_cases a with ⟨h1, h2⟩ | ⟨k, hk, rfl, h1, h2⟩
  · rw [h1, h2]
    exact Or.inr ⟨1, 1, 0, ux (ux m 0 6 0) 0 6 1, Or.inl ⟨rfl, rfl⟩, rfl, rfl, ux_at, (h.thr 0).thr 1⟩
  · rw [h1, h2]
    have key : f_X5_maySet (nI k) a2 = f_X4_isValueOf x (nI k) a2 ∧ (f_X4_isValueOf x (nI k) a2 = some 0 ∨ f_X4_isValueOf x (nI k) a2 = some 1) := by
      unfold f_X5_maySet f_X4_isValueOf
      rw [h1, sb, if_neg (show ¬ (1 : Int32) = 0 by decide), ag hk, sb, ag hk, sb]
      rcases (show k = 0 ∨ k = 1 ∨ k = 2 by omega) with rfl | rfl | rfl
      · rw [if_pos (show nI 0 = (0 : Int32) from rfl), in_eq]
        show (f_X4_isWithin a2 1 6).bind _ = (f_X4_isWithin a2 1 6).bind _ ∧ ((f_X4_isWithin a2 1 6).bind _ = _ ∨ (f_X4_isWithin a2 1 6).bind _ = _)
        rcases wi_01 a2 1 6 with e | e <;> rw [e] <;> exact ⟨rfl, by first | exact Or.inl rfl | exact Or.inr rfl⟩
      · rw [if_neg (show ¬ nI 1 = (0 : Int32) by decide), if_pos (show nI 1 = (1 : Int32) from rfl), in_eq]
        show (f_X4_isWithin a2 0 3).bind _ = (f_X4_isWithin a2 0 3).bind _ ∧ ((f_X4_isWithin a2 0 3).bind _ = _ ∨ (f_X4_isWithin a2 0 3).bind _ = _)
        rcases wi_01 a2 0 3 with e | e <;> rw [e] <;> exact ⟨rfl, by first | exact Or.inl rfl | exact Or.inr rfl⟩
      · rw [if_neg (show ¬ nI 2 = (0 : Int32) by decide), if_neg (show ¬ nI 2 = (1 : Int32) by decide), in_eq]
        show (f_X4_isWithin a2 0 100).bind _ = (f_X4_isWithin a2 0 100).bind _ ∧ ((f_X4_isWithin a2 0 100).bind _ = _ ∨ (f_X4_isWithin a2 0 100).bind _ = _)
        rcases wi_01 a2 0 100 with e | e <;> rw [e] <;> exact ⟨rfl, by first | exact Or.inl rfl | exact Or.inr rfl⟩
    rw [key.1]
    rcases key.2 with e | e
    · rw [e]
      exact Or.inr ⟨2, 2, 0, ux (ux m 0 6 0) 0 6 2, Or.inr ⟨rfl, rfl⟩, rfl, rfl, ux_at, (h.thr 0).thr 2⟩
    · rw [e]
      obtain ⟨x1, m1, e1, e2, e3, e4, e5, e6⟩ := saved Inv.cong (h.thr 0)
      have e4 : m1 1 = m 1 := e4.trans (ux_ne (by decide))
      refine Or.inl ⟨m 1 (2 + k), ux x1 (1 + 22) k a2, ux m1 1 (2 + k) a2, ?_, ?_, ?_, ?_⟩
      · simp only [sb]
        rw [show f_X4_requireIndex 1 = some () from rfl, sb, show f_X4_requireArgument 1 = some () from rfl, sb, e1, sb]
        unfold f_X3_changeSetting f_X3_settingOf
        rw [h1]
        simp only [sb]
        rw [if_neg (by decide), ag hk]
        simp only [sb]
        rw [if_neg (by decide), asn hk]
        simp only [sb]
        rw [sm_set e3.1 hk, e4]
      · simp only [sb]
        rw [if_neg (by decide), if_neg (by decide), e2, sb, ag' (e := 2 + nI k) (n := 442) (2 + k) (nI_add 2 k) (by omega), sb, asn' (e := 2 + nI k) (n := 442) (2 + k) (nI_add 2 k) (by omega), sb, e4]
      · rw [ux_k (by decide), e5 6 (by decide), ux_at]
      · refine e3.put (zx_set hk) a2 (Inv.irr (fun i hi => pk_un ?_) e3.2.1)
        unfold rel rel0 isfl at hi
        omega
theorem op_2 : P_2 RI := by
  intro x m a a2 h
  unfold f_X4_base t_X4_base f_X5_base
  rw [in_eq]
  rcases kind_cases a with ⟨h1, h2⟩ | ⟨k, hk, rfl, h1, h2⟩
  · rw [h1, h2]
    exact Or.inr ⟨1, 1, 0, ux (ux m 0 6 0) 0 6 1, Or.inl ⟨rfl, rfl⟩, rfl, rfl, ux_at, (h.thr 0).thr 1⟩
  · rw [h1, h2]
    rcases wi_01 a2 0 9999 with e | e
    · rw [e]
      exact Or.inr ⟨2, 2, 0, ux (ux m 0 6 0) 0 6 2, Or.inr ⟨rfl, rfl⟩, rfl, rfl, ux_at, (h.thr 0).thr 2⟩
    · rw [e]
      obtain ⟨x1, m1, e1, e2, e3, e4, e5, e6⟩ := saved Inv.cong (h.thr 0)
      have e4 : m1 1 = m 1 := e4.trans (ux_ne (by decide))
      refine Or.inl ⟨m 1 (6 + 28 * k), ux x1 (1 + 23) k a2, ux m1 1 (6 + 28 * k) a2, ?_, ?_, ?_, ?_⟩
      · simp only [sb]
        rw [show f_X4_requireIndex 1 = some () from rfl, sb, show f_X4_requireArgument 1 = some () from rfl, sb, e1, sb]
        unfold f_X3_changeBase f_X3_baseOf
        rw [h1]
        simp only [sb]
        rw [if_neg (by decide), ag hk]
        simp only [sb]
        rw [if_neg (by decide), asn hk]
        simp only [sb]
        rw [sm_base e3.1 hk, e4]
      · simp only [sb]
        rw [if_neg (by decide), if_neg (by decide), e2, sb, f_at, sb, ag (by omega), sb, sb, asn (by omega), sb, e4]
      · rw [ux_k (by decide), e5 6 (by decide), ux_at]
      · refine e3.put (zx_base hk) a2 (Inv.irr (fun i hi => pk_un ?_) e3.2.1)
        unfold rel rel0 isfl at hi
        omega
