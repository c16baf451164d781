/-! ===== the share ===== -/
theorem sf_two {f g : Nat → Prop} [DecidablePred f] [DecidablePred g] : ∀ q i, (∀ j, i ≤ j → j < i + q → ¬ (f j ∧ g j)) → ∃ a d : Nat, a + d ≤ q ∧ sf (fun j => if f j then 1 else 0) q i = nI a ∧ sf (fun j => if g j then 1 else 0) q i = nI d := by
  intro q
  induction q with
  | zero => intro i _; exact ⟨0, 0, Nat.le_refl _, rfl, rfl⟩
  | succ q ih =>
    intro i hd
    obtain ⟨a, d, h1, h2, h3⟩ := ih (i + 1) (fun j j1 j2 => hd j (by omega) (by omega))
    show ∃ a d : Nat, a + d ≤ q + 1 ∧ (if f i then (1 : Int32) else 0) + sf (fun j => if f j then 1 else 0) q (i + 1) = _ ∧ (if g i then (1 : Int32) else 0) + sf (fun j => if g j then 1 else 0) q (i + 1) = _
    rw [h2, h3]
    have hdi := hd i (Nat.le_refl _) (by omega)
    by_cases hf : f i
    · have hg : ¬ g i := fun w => hdi ⟨hf, w⟩
      rw [if_pos hf, if_neg hg, Int32.zero_add]
      exact ⟨1 + a, d, by omega, nI_p 1 a rfl, rfl⟩
    · rw [if_neg hf, Int32.zero_add]
      by_cases hg : g i
      · rw [if_pos hg]
        exact ⟨a, 1 + d, by omega, rfl, nI_p 1 d rfl⟩
      · rw [if_neg hg, Int32.zero_add]
        exact ⟨a, d, by omega, rfl, rfl⟩

theorem x_stage {b : Nat} {x m : XS} (hS : Sim b x (m 1)) {N P : Nat} (hI : InvNP (m 1) N P) (w : Int32) : f_X0_inStage b x w = some (sf (fun i => if m 1 (205 + 10 * i) = w then 1 else 0) N 0) := by
  have hN := hI.1
  have eN := hI.2.1
  unfold f_X0_inStage
  refine lp_all (L := fun n acc i => f_X0_inStage_4 b x n w acc i) hN (fun n acc => ?_) (fun n acc i hi => ?_)
  · show (if x (b + 7) 0 ≤ nI N then _ else _) = _
    rw [sm_N hS, eN, if_pos (Int32.le_refl _)]
  · skip
    show (if x (b + 7) 0 ≤ nI i then _ else _) = _
    rw [sm_N hS, eN, if_neg (nI_ge hi (by omega))]
    rw [f_stageOf hS hN eN hi, sb]
    have h24 : ∀ u, f_X0_inStage_24 b x (f_X0_inStage_4 b x n) w u (nI i) = f_X0_inStage_4 b x n w u (nI (i + 1)) := fun u => by
      unfold f_X0_inStage_24
      rw [sb, nI_1]
    by_cases q : m 1 (205 + 10 * i) = w
    · rw [if_pos q, if_pos q, sb, h24]
    · rw [if_neg q, if_neg q, h24, Int32.add_zero]
theorem m_stage {m : XS} {N P : Nat} (hI : InvNP (m 1) N P) (w : Int32) : f_X5_staged m w = some (sf (fun i => if m 1 (205 + 10 * i) = w then 1 else 0) N 0) := by
  have hN := hI.1
  have eN := hI.2.1
  unfold f_X5_staged
  refine lp_all (L := fun n acc i => f_X5_staged_4 m n w acc i) hN (fun n acc => ?_) (fun n acc i hi => ?_)
  · show (aget 442 (m 1) 0).bind _ = _
    rw [ag' (e := 0) (n := 442) 0 rfl (by decide), sb, eN, if_pos (Int32.le_refl _)]
  · skip
    show (aget 442 (m 1) 0).bind _ = _
    rw [ag' (e := 0) (n := 442) 0 rfl (by decide), sb, eN, if_neg (nI_ge hi (by omega))]
    have h36 : ∀ u t, f_X5_staged_35 m (f_X5_staged_4 m n) w (nI i) t u = f_X5_staged_4 m n w (u + t) (nI (i + 1)) := fun u t => by
      unfold f_X5_staged_35
      rw [sb, sb, nI_1]
    rw [f_of, sb, ag' (e := nI (202 + 10 * i) + 3) (n := 442) (205 + 10 * i) (nI_p _ 3 (by omega)) (by omega), sb]
    by_cases q : m 1 (205 + 10 * i) = w
    · rw [if_pos q, if_pos q, h36]
    · rw [if_neg q, if_neg q, h36]
def shOK (v : UInt64) : Bool := decide (dok v = some v) && decide (Op.cmpValue (FP.dcmp v v) .l = 0) && (match f_X4_bitsOf v, f_JD_doubleToLongBits v with | some a, some b => decide (a = b) | _, _ => false)
theorem sh_fin : ∀ t, t < 25 → ∀ d, d < 25 → (decide (t = 0) || decide (t < d) || shOK (FP.ddiv (FP.i2d (nI t - nI d)) (FP.i2d (nI t)))) = true := by decide +kernel
theorem sh_1 : shOK FP.dconst1 = true := by decide +kernel
theorem sh_ok {v : UInt64} (h : shOK v = true) : dok v = some v ∧ Op.cmpValue (FP.dcmp v v) .l = 0 ∧ ∃ w, f_X4_bitsOf v = some w ∧ f_JD_doubleToLongBits v = some w := by
  unfold shOK at h
  rw [Bool.and_eq_true, Bool.and_eq_true] at h
  refine ⟨of_decide_eq_true h.1.1, of_decide_eq_true h.1.2, ?_⟩
  have h2 := h.2
  cases e1 : f_X4_bitsOf v with
  | none => rw [e1] at h2; exact absurd h2 (by simp)
  | some a =>
    cases e2 : f_JD_doubleToLongBits v with
    | none => rw [e1, e2] at h2; exact absurd h2 (by simp)
    | some b =>
      rw [e1, e2] at h2
      have e : a = b := of_decide_eq_true h2
      exact ⟨a, rfl, by rw [e]⟩
theorem r_share {x m : XS} (hS : Sim 1 x (m 1)) {N P : Nat} (hI : InvNP (m 1) N P) : ∃ v, f_X4_followShare x = some v ∧ f_X5_shareOf m = some v ∧ Op.cmpValue (FP.dcmp v v) .l = 0 ∧ ∃ w, f_X4_bitsOf v = some w ∧ f_JD_doubleToLongBits v = some w := by
  have hN := hI.1
  have eN := hI.2.1
  obtain ⟨a, d, h1, h2, h3⟩ := sf_two (f := fun i => m 1 (205 + 10 * i) = 0) (g := fun i => m 1 (211 + 10 * i) = 3) N 0 (fun j _ hj q => by
    obtain ⟨k, k1, -, t, s1, s2, s3, s4⟩ := hI.2.2.2.2.2.2.1 j (by omega)
    have t0 : t = 0 := (nI_eq (b := 0) (by omega) (by decide)).mp (s2.symm.trans q.1)
    have e := (s3 t0).2.2.2.2.2
    rw [e] at q
    exact absurd q.2 (by decide))
  unfold f_X4_followShare f_X5_shareOf
  rw [x_stage hS hI, sb, m_stage hI, ag' (e := 0) (n := 442) 0 rfl (by decide), sb, sb, sm_N hS, eN, h2, pk_sub (show a ≤ N by omega), sb, sb, x_dep hS hI, m_dep hI, h3, sb, sb, pk_sub (show a ≤ N by omega)]
  obtain ⟨t, ht⟩ : ∃ t, t = N - a := ⟨_, rfl⟩
  rw [← ht]
  by_cases t0 : t = 0
  · rw [t0, if_neg (show ¬ (0 : Int32) < nI 0 by decide), if_pos (show nI 0 = (0 : Int32) from rfl)]
    obtain ⟨-, s2, s3⟩ := sh_ok sh_1
    exact ⟨_, rfl, rfl, s2, s3⟩
  · have hf := sh_fin t (by omega) d (by omega)
    rw [decide_eq_false t0, decide_eq_false (show ¬ t < d by omega), Bool.false_or, Bool.false_or] at hf
    obtain ⟨s1, s2, s3⟩ := sh_ok hf
    rw [if_pos (show (0 : Int32) < nI t from nI_lt (a := 0) (b := t) (by omega) (by omega)), if_neg (nI_ne0 (n := t) (by omega) (by omega)), s1, sb]
    exact ⟨_, rfl, rfl, s2, s3⟩
theorem op_25 : P_25 RI := by
  intro x m h
  have hm2 : (ux m 0 6 0) 1 = m 1 := ux_ne (by decide)
  obtain ⟨⟨N, P, hI⟩, hF⟩ := h.2.1
  obtain ⟨v, v1, v2, v3, -⟩ := r_share (x := x) (m := ux m 0 6 0) (by rw [hm2]; exact h.1) (by rw [hm2]; exact hI)
  unfold f_X5_followShare
  rw [v1, sb, v2, sb]
  exact ⟨v, v, x, ux m 0 6 0, rfl, rfl, v3, h.thr 0⟩
