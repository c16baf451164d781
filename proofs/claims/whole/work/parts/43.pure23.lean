/-! sums, read on both sides -/
theorem f_amC {b : Nat} {x : XS} {z : ZS} (hS : Sim b x z) {N c : Nat} (hN : N ≤ 24) (e : z 0 = nI N) (hc : c < N) : f_X0_amendsOf b x (nI c) = some (z (206 + 10 * c)) := by
  unfold f_X0_amendsOf
  rw [(f_hasC hS hN e _).2 c hc rfl, sb, if_neg (by decide), ag (by omega), sb, show 206 + 10 * c = 202 + 10 * c + 4 by omega]
  exact congrArg some (sm_co (j := 4) hS (by decide) (by omega))
theorem f_reaC {b : Nat} {x : XS} {z : ZS} (hS : Sim b x z) {N c : Nat} (hN : N ≤ 24) (e : z 0 = nI N) (hc : c < N) : f_X0_reasonOf b x (nI c) = some (z (208 + 10 * c)) := by
  unfold f_X0_reasonOf
  rw [(f_hasC hS hN e _).2 c hc rfl, sb, if_neg (by decide), ag (by omega), sb, show 208 + 10 * c = 202 + 10 * c + 6 by omega]
  exact congrArg some (sm_co (j := 6) hS (by decide) (by omega))
theorem f_cusC {b : Nat} {x : XS} {z : ZS} (hS : Sim b x z) {N c : Nat} (hN : N ≤ 24) (e : z 0 = nI N) (hc : c < N) : f_X0_customerOf b x (nI c) = some (z (204 + 10 * c)) := by
  unfold f_X0_customerOf
  rw [(f_hasC hS hN e _).2 c hc rfl, sb, if_neg (by decide), ag (by omega), sb, show 204 + 10 * c = 202 + 10 * c + 2 by omega]
  exact congrArg some (sm_co (j := 2) hS (by decide) (by omega))
def ow (m : XS) (c : Nat) : Int32 := (f_X5_waitsFor m (nI c)).getD 0
theorem f_ow {b : Nat} {x m : XS} (hS : Sim b x (m 1)) {N P : Nat} (hI : InvNP (m 1) N P) {c : Nat} (hc : c < N) : f_X5_waitsFor m (nI c) = some (ow m c) ∧ f_X3_owedTo b x (nI c) = some (ow m c) := by
  have hN := hI.1
  have eN := hI.2.1
  have eP := hI.2.2.2.1
  have hP := hI.P24
  have key : ∃ w, f_X5_waitsFor m (nI c) = some w ∧ f_X3_owedTo b x (nI c) = some w := by
    have hwM : ∀ y : Int32, m 1 (210 + 10 * c) = y → f_X5_waitsFor m (nI c) = if m 1 (205 + 10 * c) = 0 then some 0 else (if y = -1 then some 0 else ((aget 442 (m 1) (nI (202 + 10 * c))).bind fun v43 =>
          (aget 442 (m 1) (130 + (3 * y))).bind fun v55 =>
          (f_X5_cost m v43 v55).bind fun v56 =>
          (aget 442 (m 1) (nI (202 + 10 * c) + 5)).bind fun v69 =>
          if (v56 - v69 ≤ 0 : Prop) then
            some 0
          else
            some (v56 - v69))) := by
      intro y hy
      unfold f_X5_waitsFor
      rw [f_of, sb, ag' (e := nI (202 + 10 * c) + 8) (n := 442) (210 + 10 * c) (nI_p _ 8 (by omega)) (by omega), sb, sb, ag' (e := nI (202 + 10 * c) + 3) (n := 442) (205 + 10 * c) (nI_p _ 3 (by omega)) (by omega), sb, hy]
      rfl
    obtain ⟨k, k1, -, t, s1, s2, s3, s4⟩ := hI.2.2.2.2.2.2.1 c hc
    have hno : m 1 (210 + 10 * c) = -1 → ∃ w, f_X5_waitsFor m (nI c) = some w ∧ f_X3_owedTo b x (nI c) = some w := fun e => by
      refine ⟨0, ?_, ?_⟩
      · rw [hwM _ e, if_pos (show (-1 : Int32) = -1 from rfl)]
        split <;> rfl
      · unfold f_X3_owedTo
        rw [f_folOf hS hN eN hc, sb, e, (f_hasP hS hP eP (-1)).1 (Or.inl (by decide)), sb, if_pos rfl]
    by_cases t0 : t = 0
    · exact hno (s3 t0).2.2.2.2.1
    · rcases (s4 t0).2 with ⟨-, b⟩ | ⟨p, s, b1, b2, b3, b4, b5, b6⟩
      · exact hno b
      · obtain ⟨-, h0, k', s', a, c1, c2, c3, c4, c5, c6⟩ := hI.fol hc (by omega) b2
        have hk4 := c1.1
        have ha6 : a < 6 := by obtain ⟨s, q0, q1, q2⟩ := c6; omega
        have hM := hwM _ b2
        rw [if_neg h0, if_neg (show ¬ nI p = -1 from fun w => nI_pos (n := p) (by omega) (by rw [w]; decide)), ag (by omega), sb, c1.2, e_pr, ag (by omega), sb, c5, f_cost5 hk4 ha6, sb, ag' (e := nI (202 + 10 * c) + 5) (n := 442) (207 + 10 * c) (nI_p _ 5 (by omega)) (by omega), sb] at hM
        have hO : f_X3_owedTo b x (nI c) = some (if 0 < m 1 (10 + 28 * k' + 4 * a) - m 1 (207 + 10 * c) then m 1 (10 + 28 * k' + 4 * a) - m 1 (207 + 10 * c) else 0) := by
          unfold f_X3_owedTo
          rw [f_folOf hS hN eN hc, sb, b2, (f_hasP hS hP eP (nI p)).2 p b1 rfl, sb, if_neg (show ¬ (1 : Int32) = 0 by decide), f_kindOf hS hN eN hc, sb, c1.2, f_amP hS hP eP b1, sb, c5, f_costX hS hk4 c6, sb, f_gotOf hS hN eN hc, sb, sb]
        by_cases q : m 1 (10 + 28 * k' + 4 * a) - m 1 (207 + 10 * c) ≤ 0
        · rw [if_pos q] at hM
          rw [if_neg (fun w => Int32.lt_irrefl (Int32.lt_of_lt_of_le w q))] at hO
          exact ⟨_, hM, hO⟩
        · rw [if_neg q] at hM
          rw [if_pos (Int32.not_le.mp q)] at hO
          exact ⟨_, hM, hO⟩
  obtain ⟨w, w1, w2⟩ := key
  have e : ow m c = w := by unfold ow; rw [w1]; rfl
  rw [e]
  exact ⟨w1, w2⟩
theorem x_having {b : Nat} {x m : XS} (hS : Sim b x (m 1)) {N P : Nat} (hI : InvNP (m 1) N P) (kk a : Int32) : f_X0_having b x kk a = some (sf (fun i => if m 1 (202 + 10 * i) = kk then (if m 1 (206 + 10 * i) = a then 1 else 0) else 0) N 0) := by
  have hN := hI.1
  have eN := hI.2.1
  unfold f_X0_having
  refine lp_all (L := fun n acc i => f_X0_having_5 b x n kk a acc i) hN (fun n acc => ?_) (fun n acc i hi => ?_)
  · show (if x (b + 7) 0 ≤ nI N then _ else _) = _
    rw [sm_N hS, eN, if_pos (Int32.le_refl _)]
  · skip
    show (if x (b + 7) 0 ≤ nI i then _ else _) = _
    rw [sm_N hS, eN, if_neg (nI_ge hi (by omega))]
    rw [f_kindOf hS hN eN hi, sb]
    have h37 : ∀ u, f_X0_having_37 b x (f_X0_having_5 b x n) kk a u (nI i) = f_X0_having_5 b x n kk a u (nI (i + 1)) := fun u => by
      unfold f_X0_having_37
      rw [sb, nI_1]
    by_cases q : m 1 (202 + 10 * i) = kk
    · rw [if_pos q, if_pos q, f_amC hS hN eN hi, sb]
      by_cases q2 : m 1 (206 + 10 * i) = a
      · rw [if_pos q2, if_pos q2, sb, h37]
      · rw [if_neg q2, if_neg q2, h37, Int32.add_zero]
    · rw [if_neg q, if_neg q, h37, Int32.add_zero]
theorem m_having {m : XS} {N P : Nat} (hI : InvNP (m 1) N P) (kk a : Int32) : f_X5_having m kk a = some (sf (fun i => if m 1 (202 + 10 * i) = kk then (if m 1 (206 + 10 * i) = a then 1 else 0) else 0) N 0) := by
  have hN := hI.1
  have eN := hI.2.1
  unfold f_X5_having
  refine lp_all (L := fun n acc i => f_X5_having_5 m n kk a acc i) hN (fun n acc => ?_) (fun n acc i hi => ?_)
  · show (aget 442 (m 1) 0).bind _ = _
    rw [ag' (e := 0) (n := 442) 0 rfl (by decide), sb, eN, if_pos (Int32.le_refl _)]
  · skip
    show (aget 442 (m 1) 0).bind _ = _
    rw [ag' (e := 0) (n := 442) 0 rfl (by decide), sb, eN, if_neg (nI_ge hi (by omega))]
    have h52 : ∀ u t, f_X5_having_52 m (f_X5_having_5 m n) kk a (nI i) t u = f_X5_having_5 m n kk a (u + t) (nI (i + 1)) := fun u t => by
      unfold f_X5_having_52
      rw [sb, sb, nI_1]
    have h51 : ∀ u, f_X5_having_51 m (f_X5_having_5 m n) kk a (nI i) u = f_X5_having_5 m n kk a (u + 0) (nI (i + 1)) := fun u => h52 u 0
    rw [f_of, sb, ag (by omega), sb]
    by_cases q : m 1 (202 + 10 * i) = kk
    · rw [if_pos q, if_pos q, sb, ag' (e := nI (202 + 10 * i) + 4) (n := 442) (206 + 10 * i) (nI_p _ 4 (by omega)) (by omega), sb]
      by_cases q2 : m 1 (206 + 10 * i) = a
      · rw [if_pos q2, if_pos q2, h52]
      · rw [if_neg q2, if_neg q2, h51]
    · rw [if_neg q, if_neg q, h51]
theorem x_fol {b : Nat} {x m : XS} (hS : Sim b x (m 1)) {N P : Nat} (hI : InvNP (m 1) N P) (pp : Int32) : f_X0_following b x pp = some (sf (fun i => if m 1 (210 + 10 * i) = pp then 1 else 0) N 0) := by
  have hN := hI.1
  have eN := hI.2.1
  unfold f_X0_following
  refine lp_all (L := fun n acc i => f_X0_following_4 b x n pp acc i) hN (fun n acc => ?_) (fun n acc i hi => ?_)
  · show (if x (b + 7) 0 ≤ nI N then _ else _) = _
    rw [sm_N hS, eN, if_pos (Int32.le_refl _)]
  · skip
    show (if x (b + 7) 0 ≤ nI i then _ else _) = _
    rw [sm_N hS, eN, if_neg (nI_ge hi (by omega))]
    rw [f_folOf hS hN eN hi, sb]
    have h24 : ∀ u, f_X0_following_24 b x (f_X0_following_4 b x n) pp u (nI i) = f_X0_following_4 b x n pp u (nI (i + 1)) := fun u => by
      unfold f_X0_following_24
      rw [sb, nI_1]
    by_cases q : m 1 (210 + 10 * i) = pp
    · rw [if_pos q, if_pos q, sb, h24]
    · rw [if_neg q, if_neg q, h24, Int32.add_zero]
theorem m_fol {m : XS} {N P : Nat} (hI : InvNP (m 1) N P) (pp : Int32) : f_X5_following m pp = some (sf (fun i => if m 1 (210 + 10 * i) = pp then 1 else 0) N 0) := by
  have hN := hI.1
  have eN := hI.2.1
  unfold f_X5_following
  refine lp_all (L := fun n acc i => f_X5_following_4 m n pp acc i) hN (fun n acc => ?_) (fun n acc i hi => ?_)
  · show (aget 442 (m 1) 0).bind _ = _
    rw [ag' (e := 0) (n := 442) 0 rfl (by decide), sb, eN, if_pos (Int32.le_refl _)]
  · skip
    show (aget 442 (m 1) 0).bind _ = _
    rw [ag' (e := 0) (n := 442) 0 rfl (by decide), sb, eN, if_neg (nI_ge hi (by omega))]
    have h36 : ∀ u t, f_X5_following_36 m (f_X5_following_4 m n) pp (nI i) t u = f_X5_following_4 m n pp (u + t) (nI (i + 1)) := fun u t => by
      unfold f_X5_following_36
      rw [sb, sb, nI_1]
    rw [f_of, sb, ag' (e := nI (202 + 10 * i) + 8) (n := 442) (210 + 10 * i) (nI_p _ 8 (by omega)) (by omega), sb]
    by_cases q : m 1 (210 + 10 * i) = pp
    · rw [if_pos q, if_pos q, h36]
    · rw [if_neg q, if_neg q, h36]
theorem x_ofKind {b : Nat} {x m : XS} (hS : Sim b x (m 1)) {N P : Nat} (hI : InvNP (m 1) N P) (kk : Int32) : f_X0_ofKind b x kk = some (sf (fun i => if m 1 (202 + 10 * i) = kk then 1 else 0) N 0) := by
  have hN := hI.1
  have eN := hI.2.1
  unfold f_X0_ofKind
  refine lp_all (L := fun n acc i => f_X0_ofKind_4 b x n kk acc i) hN (fun n acc => ?_) (fun n acc i hi => ?_)
  · show (if x (b + 7) 0 ≤ nI N then _ else _) = _
    rw [sm_N hS, eN, if_pos (Int32.le_refl _)]
  · skip
    show (if x (b + 7) 0 ≤ nI i then _ else _) = _
    rw [sm_N hS, eN, if_neg (nI_ge hi (by omega))]
    rw [f_kindOf hS hN eN hi, sb]
    have h24 : ∀ u, f_X0_ofKind_24 b x (f_X0_ofKind_4 b x n) kk u (nI i) = f_X0_ofKind_4 b x n kk u (nI (i + 1)) := fun u => by
      unfold f_X0_ofKind_24
      rw [sb, nI_1]
    by_cases q : m 1 (202 + 10 * i) = kk
    · rw [if_pos q, if_pos q, sb, h24]
    · rw [if_neg q, if_neg q, h24, Int32.add_zero]
theorem x_gotK {b : Nat} {x m : XS} (hS : Sim b x (m 1)) {N P : Nat} (hI : InvNP (m 1) N P) (kk : Int32) : f_X0_gotInKind b x kk = some (sf (fun i => if m 1 (202 + 10 * i) = kk then m 1 (207 + 10 * i) else 0) N 0) := by
  have hN := hI.1
  have eN := hI.2.1
  unfold f_X0_gotInKind
  refine lp_all (L := fun n acc i => f_X0_gotInKind_4 b x n kk acc i) hN (fun n acc => ?_) (fun n acc i hi => ?_)
  · show (if x (b + 7) 0 ≤ nI N then _ else _) = _
    rw [sm_N hS, eN, if_pos (Int32.le_refl _)]
  · skip
    show (if x (b + 7) 0 ≤ nI i then _ else _) = _
    rw [sm_N hS, eN, if_neg (nI_ge hi (by omega))]
    rw [f_kindOf hS hN eN hi, sb]
    have h24 : ∀ u, f_X0_gotInKind_29 b x (f_X0_gotInKind_4 b x n) kk u (nI i) = f_X0_gotInKind_4 b x n kk u (nI (i + 1)) := fun u => by
      unfold f_X0_gotInKind_29
      rw [sb, nI_1]
    by_cases q : m 1 (202 + 10 * i) = kk
    · rw [if_pos q, if_pos q, f_gotOf hS hN eN hi, sb, sb, h24]
    · rw [if_neg q, if_neg q, h24, Int32.add_zero]
theorem x_owedK {b : Nat} {x m : XS} (hS : Sim b x (m 1)) {N P : Nat} (hI : InvNP (m 1) N P) (kk : Int32) : f_X3_owedInKind b x kk = some (sf (fun i => if m 1 (202 + 10 * i) = kk then ow m i else 0) N 0) := by
  have hN := hI.1
  have eN := hI.2.1
  unfold f_X3_owedInKind
  refine lp_all (L := fun n acc i => f_X3_owedInKind_4 b x n kk acc i) hN (fun n acc => ?_) (fun n acc i hi => ?_)
  · show (if x (b + 7) 0 ≤ nI N then _ else _) = _
    rw [sm_N hS, eN, if_pos (Int32.le_refl _)]
  · skip
    show (if x (b + 7) 0 ≤ nI i then _ else _) = _
    rw [sm_N hS, eN, if_neg (nI_ge hi (by omega))]
    rw [f_kindOf hS hN eN hi, sb]
    have h24 : ∀ u, f_X3_owedInKind_35 b x (f_X3_owedInKind_4 b x n) kk u (nI i) = f_X3_owedInKind_4 b x n kk u (nI (i + 1)) := fun u => by
      unfold f_X3_owedInKind_35
      rw [sb, nI_1]
    by_cases q : m 1 (202 + 10 * i) = kk
    · rw [if_pos q, if_pos q, (f_ow hS hI hi).2, sb, sb, h24]
    · rw [if_neg q, if_neg q, h24, Int32.add_zero]
theorem x_wait {b : Nat} {x m : XS} (hS : Sim b x (m 1)) {N P : Nat} (hI : InvNP (m 1) N P)  : f_X3_waiting b x = some (sf (fun i => if ow m i ≤ 0 then 0 else 1) N 0) := by
  have hN := hI.1
  have eN := hI.2.1
  unfold f_X3_waiting
  refine lp_all (L := fun n acc i => f_X3_waiting_4 b x n acc i) hN (fun n acc => ?_) (fun n acc i hi => ?_)
  · show (if x (b + 7) 0 ≤ nI N then _ else _) = _
    rw [sm_N hS, eN, if_pos (Int32.le_refl _)]
  · skip
    show (if x (b + 7) 0 ≤ nI i then _ else _) = _
    rw [sm_N hS, eN, if_neg (nI_ge hi (by omega))]
    rw [(f_ow hS hI hi).2, sb]
    have h24 : ∀ u, f_X3_waiting_26 b x (f_X3_waiting_4 b x n) u (nI i) = f_X3_waiting_4 b x n u (nI (i + 1)) := fun u => by
      unfold f_X3_waiting_26
      rw [sb, nI_1]
    by_cases q : ow m i ≤ 0
    · rw [if_pos q, if_pos q, h24, Int32.add_zero]
    · rw [if_neg q, if_neg q, sb, h24]
theorem f_tie {b : Nat} {x m : XS} (hS : Sim b x (m 1)) {N P : Nat} (hI : InvNP (m 1) N P) {c : Nat} (hc : c < N) : f_X3_tieOf b x (nI c) = some (m 1 (211 + 10 * c)) := by
  have hN := hI.1
  have eN := hI.2.1
  have eP := hI.2.2.2.1
  have hP := hI.P24
  obtain ⟨k, k1, -, t, s1, s2, s3, s4⟩ := hI.2.2.2.2.2.2.1 c hc
  unfold f_X3_tieOf
  rw [f_stageOf hS hN eN hc, sb, s2]
  by_cases t0 : t = 0
  · subst t0
    rw [if_pos (show nI 0 = (0 : Int32) from rfl), (s3 rfl).2.2.2.2.2]
  · rw [if_neg (nI_ne0 (by omega) (by omega)), f_folOf hS hN eN hc, sb]
    rcases (s4 t0).2 with ⟨b1, b2⟩ | ⟨p, s, b1, b2, b3, b4, b5, b6⟩
    · rw [b2, if_pos (show (-1 : Int32) = -1 from rfl), b1]
    · rw [b2, if_neg (show ¬ nI p = -1 from fun w => nI_pos (n := p) (by omega) (by rw [w]; decide)), f_setP hS hP eP b1, sb, b3, b6]
      by_cases q : s = c
      · subst q
        rw [if_pos rfl, if_pos rfl]
      · rw [if_neg q, if_neg (fun w => q ((nI_eq (by omega) (by omega)).mp w))]
theorem x_dep {b : Nat} {x m : XS} (hS : Sim b x (m 1)) {N P : Nat} (hI : InvNP (m 1) N P)  : f_X3_departing b x = some (sf (fun i => if m 1 (211 + 10 * i) = 3 then 1 else 0) N 0) := by
  have hN := hI.1
  have eN := hI.2.1
  unfold f_X3_departing
  refine lp_all (L := fun n acc i => f_X3_departing_4 b x n acc i) hN (fun n acc => ?_) (fun n acc i hi => ?_)
  · show (if x (b + 7) 0 ≤ nI N then _ else _) = _
    rw [sm_N hS, eN, if_pos (Int32.le_refl _)]
  · skip
    show (if x (b + 7) 0 ≤ nI i then _ else _) = _
    rw [sm_N hS, eN, if_neg (nI_ge hi (by omega))]
    rw [f_tie hS hI hi, sb]
    have h24 : ∀ u, f_X3_departing_27 b x (f_X3_departing_4 b x n) u (nI i) = f_X3_departing_4 b x n u (nI (i + 1)) := fun u => by
      unfold f_X3_departing_27
      rw [sb, nI_1]
    by_cases q : m 1 (211 + 10 * i) = 3
    · rw [if_pos q, if_pos q, sb, h24]
    · rw [if_neg q, if_neg q, h24, Int32.add_zero]
theorem m_dep {m : XS} {N P : Nat} (hI : InvNP (m 1) N P)  : f_X5_departing m = some (sf (fun i => if m 1 (211 + 10 * i) = 3 then 1 else 0) N 0) := by
  have hN := hI.1
  have eN := hI.2.1
  unfold f_X5_departing
  refine lp_all (L := fun n acc i => f_X5_departing_4 m n acc i) hN (fun n acc => ?_) (fun n acc i hi => ?_)
  · show (aget 442 (m 1) 0).bind _ = _
    rw [ag' (e := 0) (n := 442) 0 rfl (by decide), sb, eN, if_pos (Int32.le_refl _)]
  · skip
    show (aget 442 (m 1) 0).bind _ = _
    rw [ag' (e := 0) (n := 442) 0 rfl (by decide), sb, eN, if_neg (nI_ge hi (by omega))]
    have h36 : ∀ u t, f_X5_departing_36 m (f_X5_departing_4 m n) (nI i) t u = f_X5_departing_4 m n (u + t) (nI (i + 1)) := fun u t => by
      unfold f_X5_departing_36
      rw [sb, sb, nI_1]
    rw [f_of, sb, ag' (e := nI (202 + 10 * i) + 9) (n := 442) (211 + 10 * i) (nI_p _ 9 (by omega)) (by omega), sb]
    by_cases q : m 1 (211 + 10 * i) = 3
    · rw [if_pos q, if_pos q, h36]
    · rw [if_neg q, if_neg q, h36]
theorem m_ofC {m : XS} {N P : Nat} (hI : InvNP (m 1) N P) (l1 w : Int32) {vw : Nat → Int32} (hv : ∀ k5 acc i, i < N → f_X5_ofComplaints_40 m k5 l1 w acc (nI i) 1 = k5 l1 w (acc + vw i) (nI (i + 1))) : f_X5_ofComplaints m l1 w = some (sf (fun i => if l1 = -1 then vw i else (if m 1 (202 + 10 * i) = l1 then vw i else 0)) N 0) := by
  have hN := hI.1
  have eN := hI.2.1
  unfold f_X5_ofComplaints
  refine lp_all (L := fun n acc i => f_X5_ofComplaints_5 m n l1 w acc i) hN (fun n acc => ?_) (fun n acc i hi => ?_)
  · show (aget 442 (m 1) 0).bind _ = _
    rw [ag' (e := 0) (n := 442) 0 rfl (by decide), sb, eN, if_pos (Int32.le_refl _)]
  · skip
    show (aget 442 (m 1) 0).bind _ = _
    rw [ag' (e := 0) (n := 442) 0 rfl (by decide), sb, eN, if_neg (nI_ge hi (by omega))]
    have h35 : f_X5_ofComplaints_35 m (f_X5_ofComplaints_5 m n) l1 w acc (nI i) = f_X5_ofComplaints_5 m n l1 w (acc + vw i) (nI (i + 1)) := hv _ _ i hi
    have h40 : f_X5_ofComplaints_40 m (f_X5_ofComplaints_5 m n) l1 w acc (nI i) 0 = f_X5_ofComplaints_5 m n l1 w (acc + 0) (nI (i + 1)) := by
      unfold f_X5_ofComplaints_40 f_X5_ofComplaints_111
      rw [if_pos rfl, sb, sb, nI_1]
    by_cases q : l1 = -1
    · rw [if_pos q, if_pos q, h35]
    · rw [if_neg q, if_neg q, f_of, sb, ag (by omega), sb]
      by_cases q2 : m 1 (202 + 10 * i) = l1
      · rw [if_pos q2, if_pos q2, h35]
      · rw [if_neg q2, if_neg q2, h40]
theorem v_111 {m : XS} {k5 : Int32 → Int32 → Int32 → Int32 → Option (Int32)} {l1 w t u : Int32} {i : Nat} : f_X5_ofComplaints_111 m k5 l1 w (nI i) t u = k5 l1 w (u + t) (nI (i + 1)) := by
  unfold f_X5_ofComplaints_111
  rw [sb, sb, nI_1]
theorem v_5 {m : XS} {k5 : Int32 → Int32 → Int32 → Int32 → Option (Int32)} {l1 acc : Int32} {i : Nat} : f_X5_ofComplaints_40 m k5 l1 5 acc (nI i) 1 = k5 l1 5 (acc + 1) (nI (i + 1)) := by
  unfold f_X5_ofComplaints_40
  rw [if_neg (show ¬ (1 : Int32) = 0 by decide), if_pos (show (5 : Int32) = 5 from rfl), v_111]
theorem v_6 {m : XS} {k5 : Int32 → Int32 → Int32 → Int32 → Option (Int32)} {l1 acc : Int32} {i : Nat} (hi : i < 24) : f_X5_ofComplaints_40 m k5 l1 6 acc (nI i) 1 = k5 l1 6 (acc + m 1 (207 + 10 * i)) (nI (i + 1)) := by
  unfold f_X5_ofComplaints_40
  rw [if_neg (show ¬ (1 : Int32) = 0 by decide), if_neg (show ¬ (6 : Int32) = 5 by decide), if_pos (show (6 : Int32) = 6 from rfl), f_of, sb, ag' (e := nI (202 + 10 * i) + 5) (n := 442) (207 + 10 * i) (nI_p _ 5 (by omega)) (by omega), sb, v_111]
theorem v_7 {b : Nat} {x m : XS} (hS : Sim b x (m 1)) {N P : Nat} (hI : InvNP (m 1) N P) {k5 : Int32 → Int32 → Int32 → Int32 → Option (Int32)} {l1 acc : Int32} {i : Nat} (hi : i < N) : f_X5_ofComplaints_40 m k5 l1 7 acc (nI i) 1 = k5 l1 7 (acc + ow m i) (nI (i + 1)) := by
  unfold f_X5_ofComplaints_40
  rw [if_neg (show ¬ (1 : Int32) = 0 by decide), if_neg (show ¬ (7 : Int32) = 5 by decide), if_neg (show ¬ (7 : Int32) = 6 by decide), if_pos (show (7 : Int32) = 7 from rfl), (f_ow hS hI hi).1, sb, v_111]
theorem v_8 {b : Nat} {x m : XS} (hS : Sim b x (m 1)) {N P : Nat} (hI : InvNP (m 1) N P) {k5 : Int32 → Int32 → Int32 → Int32 → Option (Int32)} {l1 acc : Int32} {i : Nat} (hi : i < N) : f_X5_ofComplaints_40 m k5 l1 8 acc (nI i) 1 = k5 l1 8 (acc + if ow m i ≤ 0 then 0 else 1) (nI (i + 1)) := by
  unfold f_X5_ofComplaints_40
  rw [if_neg (show ¬ (1 : Int32) = 0 by decide), if_neg (show ¬ (8 : Int32) = 5 by decide), if_neg (show ¬ (8 : Int32) = 6 by decide), if_neg (show ¬ (8 : Int32) = 7 by decide), (f_ow hS hI hi).1, sb]
  by_cases q : ow m i ≤ 0
  · rw [if_pos q, if_pos q, v_111]
  · rw [if_neg q, if_neg q, v_111]
theorem x_gotAll {b : Nat} {x m : XS} (hS : Sim b x (m 1)) {N P : Nat} (hI : InvNP (m 1) N P) : f_X0_gotInAll b x = some (sf (fun i => m 1 (207 + 10 * i)) N 0) := by
  unfold f_X0_gotInAll
  rw [lp_all (L := fun n acc i => f_X0_gotInAll_4 b x n acc i) (g := fun k => sf (fun i => if m 1 (202 + 10 * i) = nI k then m 1 (207 + 10 * i) else 0) N 0) (N := 4) (by decide) (fun n acc => ?_) (fun n acc i hi => ?_)]
  · rw [sf_kinds (f := fun i => m 1 (207 + 10 * i)) (kd := fun i => m 1 (202 + 10 * i)) (fun i hi => by obtain ⟨k, k1, -⟩ := hI.2.2.2.2.2.2.1 i hi; exact ⟨k, k1⟩)]
  · show (if (4 : Int32) ≤ nI 4 then _ else _) = _
    rw [if_pos (show (4 : Int32) ≤ nI 4 by decide)]
  · skip
    show (if (4 : Int32) ≤ nI i then _ else _) = _
    rw [if_neg (show ¬ (4 : Int32) ≤ nI i from nI_ge (a := i) (b := 4) hi (by decide)), x_gotK hS hI, sb, sb, sb, nI_1]
theorem x_owedAll {b : Nat} {x m : XS} (hS : Sim b x (m 1)) {N P : Nat} (hI : InvNP (m 1) N P) : f_X3_owedInAll b x = some (sf (fun i => ow m i) N 0) := by
  unfold f_X3_owedInAll
  rw [lp_all (L := fun n acc i => f_X3_owedInAll_4 b x n acc i) (g := fun k => sf (fun i => if m 1 (202 + 10 * i) = nI k then ow m i else 0) N 0) (N := 4) (by decide) (fun n acc => ?_) (fun n acc i hi => ?_)]
  · rw [sf_kinds (f := fun i => ow m i) (kd := fun i => m 1 (202 + 10 * i)) (fun i hi => by obtain ⟨k, k1, -⟩ := hI.2.2.2.2.2.2.1 i hi; exact ⟨k, k1⟩)]
  · show (if (4 : Int32) ≤ nI 4 then _ else _) = _
    rw [if_pos (show (4 : Int32) ≤ nI 4 by decide)]
  · skip
    show (if (4 : Int32) ≤ nI i then _ else _) = _
    rw [if_neg (show ¬ (4 : Int32) ≤ nI i from nI_ge (a := i) (b := 4) hi (by decide)), x_owedK hS hI, sb, sb, sb, nI_1]
theorem m_all {b : Nat} {x m : XS} (hS : Sim b x (m 1)) {N P : Nat} (hI : InvNP (m 1) N P) : f_X5_ofComplaints m (-1) 6 = some (sf (fun i => m 1 (207 + 10 * i)) N 0) ∧ f_X5_ofComplaints m (-1) 7 = some (sf (fun i => ow m i) N 0) ∧ f_X5_ofComplaints m (-1) 8 = some (sf (fun i => if ow m i ≤ 0 then 0 else 1) N 0) := by
  have hN := hI.1
  refine ⟨?_, ?_, ?_⟩
  · rw [m_ofC hI (-1) 6 (vw := fun i => m 1 (207 + 10 * i)) (fun k5 acc i hi => v_6 (by omega))]
    exact congrArg some (sf_congr N 0 (fun j _ _ => if_pos rfl))
  · rw [m_ofC hI (-1) 7 (vw := fun i => ow m i) (fun k5 acc i hi => v_7 hS hI hi)]
    exact congrArg some (sf_congr N 0 (fun j _ _ => if_pos rfl))
  · rw [m_ofC hI (-1) 8 (vw := fun i => if ow m i ≤ 0 then 0 else 1) (fun k5 acc i hi => v_8 hS hI hi)]
    exact congrArg some (sf_congr N 0 (fun j _ _ => if_pos rfl))
theorem m_kinds {b : Nat} {x m : XS} (hS : Sim b x (m 1)) {N P : Nat} (hI : InvNP (m 1) N P) {k : Nat} (hk : k < 4) : f_X5_ofComplaints m (nI k) 5 = some (sf (fun i => if m 1 (202 + 10 * i) = nI k then 1 else 0) N 0) ∧ f_X5_ofComplaints m (nI k) 6 = some (sf (fun i => if m 1 (202 + 10 * i) = nI k then m 1 (207 + 10 * i) else 0) N 0) ∧ f_X5_ofComplaints m (nI k) 7 = some (sf (fun i => if m 1 (202 + 10 * i) = nI k then ow m i else 0) N 0) := by
  have hN := hI.1
  have np : ¬ nI k = -1 := fun w => nI_pos (n := k) (by omega) (by rw [w]; decide)
  refine ⟨?_, ?_, ?_⟩
  · rw [m_ofC hI (nI k) 5 (vw := fun i => 1) (fun k5 acc i hi => v_5)]
    exact congrArg some (sf_congr N 0 (fun j _ _ => if_neg np))
  · rw [m_ofC hI (nI k) 6 (vw := fun i => m 1 (207 + 10 * i)) (fun k5 acc i hi => v_6 (by omega))]
    exact congrArg some (sf_congr N 0 (fun j _ _ => if_neg np))
  · rw [m_ofC hI (nI k) 7 (vw := fun i => ow m i) (fun k5 acc i hi => v_7 hS hI hi)]
    exact congrArg some (sf_congr N 0 (fun j _ _ => if_neg np))
