/-! ===== reading ===== -/
theorem f_binds {b : Nat} {x m : XS} (hS : Sim b x (m 1)) {N P : Nat} (hI : InvNP (m 1) N P) {k g : Nat} (hk : k < 4) (hg : g < 3) {p : Nat} (hp : p < P) (e : m 1 (118 + (3 * k + g)) = nI p) :
    (f_X3_isBinding b x (nI k) (nI p) = some 0 ∧ f_X5_binds m (nI k) (nI g) = some 0) ∨ (f_X3_isBinding b x (nI k) (nI p) = some 1 ∧ f_X5_binds m (nI k) (nI g) = some 1) := by
  have hP := hI.P24
  have eP := hI.2.2.2.1
  obtain ⟨s, s1, s2⟩ := hI.2.2.2.2.2.1 k hk
  unfold f_X5_binds f_X3_isBinding
  rw [f_lat5 hk hg, sb, e, (f_hasP hS hP eP (nI p)).2 p hp rfl, f_monP hS hP eP hp, f_amP hS hP eP hp]
  unfold f_X3_settingOf
  rw [show f_X4_isSetting 0 = some 1 from by decide +kernel, sb, sb, sb, if_neg (show ¬ nI p = -1 from fun w => nI_pos (n := p) (by omega) (by rw [w]; decide)), if_neg (show ¬ (1 : Int32) = 0 by decide), if_neg (show ¬ (1 : Int32) = 0 by decide), ag' (e := 0) (n := 3) 0 rfl (by decide), sb, sb, sm_set hS (j := 0) (by decide), sm_month hS]
  rw [ag' (e := 1) (n := 442) 1 rfl (by decide), sb, e_pr, ag' (e := nI (130 + 3 * p) + 1) (n := 442) (130 + 3 * p + 1) (nI_1 _) (by omega), sb, ag' (e := 2) (n := 442) 2 rfl (by decide), sb, sb]
  by_cases w : m 1 2 ≤ m 1 1 - m 1 (130 + 3 * p + 1)
  · rw [if_pos w, if_pos w]
    exact Or.inl ⟨rfl, rfl⟩
  · rw [if_neg w, if_neg w, ag (by omega), sb]
    rcases f_isOff hS hk s1 s2 (m 1 (130 + 3 * p)) with ⟨f1, f2⟩ | ⟨-, -, -, -, f1, f2⟩
    · rw [f1, f2]
      exact Or.inl ⟨rfl, rfl⟩
    · rw [f1, f2]
      exact Or.inr ⟨rfl, rfl⟩
theorem r_complaint {b : Nat} {x m : XS} (hS : Sim b x (m 1)) {N P : Nat} (hI : InvNP (m 1) N P) {c : Nat} (hc : c < N) {w : Nat} (hw : w ≤ 10) : ∃ r, f_X3_ofComplaint b x (nI c) (nI w) = some r ∧ f_X5_complaintOf m (nI c) (nI w) = some r := by
  have hN := hI.1
  have eN := hI.2.1
  obtain ⟨k, k1, ⟨v, v1, v2, hv⟩, -⟩ := hI.2.2.2.2.2.2.1 c hc
  have h64 : ∀ j, j ≤ 9 → f_X5_complaintOf_64 m (nI j) (nI (202 + 10 * c)) = some (m 1 (202 + 10 * c + j)) := fun j hj => by
    unfold f_X5_complaintOf_64
    rw [ag' (e := nI (202 + 10 * c) + nI j) (n := 442) (202 + 10 * c + j) (nI_add _ _) (by omega), sb]
  have h91 : ∀ j, 1 ≤ j → j ≤ 8 → f_X5_complaintOf_91 m (nI j) (nI (202 + 10 * c)) = some (m 1 (202 + 10 * c + j - 1)) := fun j hj hj2 => by
    unfold f_X5_complaintOf_91
    rw [if_neg (show ¬ nI j = 9 from fun q => absurd ((nI_eq (b := 9) (by omega) (by decide)).mp q) (by omega)), ag' (e := nI (202 + 10 * c) + nI j - 1) (n := 442) (202 + 10 * c + j - 1) (by rw [nI_add, show 202 + 10 * c + j = (202 + 10 * c + j - 1) + 1 by omega, nI_pred, Nat.add_sub_cancel]) (by omega), sb]
  have h919 : f_X5_complaintOf_91 m (nI 9) (nI (202 + 10 * c)) = some (m 1 (211 + 10 * c)) := by
    unfold f_X5_complaintOf_91
    rw [if_pos (show nI 9 = 9 from rfl), ag' (e := nI (202 + 10 * c) + 9) (n := 442) (211 + 10 * c) (nI_p _ 9 (by omega)) (by omega), sb]
  rcases (show w = 0 ∨ w = 1 ∨ w = 2 ∨ w = 3 ∨ w = 4 ∨ w = 5 ∨ w = 6 ∨ w = 7 ∨ w = 8 ∨ w = 9 ∨ w = 10 by omega) with rfl | rfl | rfl | rfl | rfl | rfl | rfl | rfl | rfl | rfl | rfl
  · refine ⟨m 1 (202 + 10 * c), ?_, ?_⟩
    · unfold f_X3_ofComplaint
      rw [if_pos (show nI 0 = (0 : Int32) from rfl), f_kindOf hS hN eN hc, sb]
    · unfold f_X5_complaintOf
      rw [f_of, sb, if_pos (show nI 0 = (0 : Int32) from rfl), h64 0 (by decide), Nat.add_zero]
  · refine ⟨m 1 (203 + 10 * c), ?_, ?_⟩
    · unfold f_X3_ofComplaint
      rw [if_neg (show ¬ nI 1 = (0 : Int32) by decide), if_pos (show nI 1 = (1 : Int32) from rfl), f_sevOf hS hN eN hc, sb]
    · unfold f_X5_complaintOf
      rw [f_of, sb, if_neg (show ¬ nI 1 = (0 : Int32) by decide), if_pos (show nI 1 = (1 : Int32) from rfl), h64 1 (by decide), show 202 + 10 * c + 1 = 203 + 10 * c by omega]
  · refine ⟨m 1 (204 + 10 * c), ?_, ?_⟩
    · unfold f_X3_ofComplaint
      rw [if_neg (show ¬ nI 2 = (0 : Int32) by decide), if_neg (show ¬ nI 2 = (1 : Int32) by decide), if_pos (show nI 2 = (2 : Int32) from rfl), f_cusC hS hN eN hc, sb]
    · unfold f_X5_complaintOf
      rw [f_of, sb, if_neg (show ¬ nI 2 = (0 : Int32) by decide), if_neg (show ¬ nI 2 = (1 : Int32) by decide), if_pos (show nI 2 = (2 : Int32) from rfl), h64 2 (by decide), show 202 + 10 * c + 2 = 204 + 10 * c by omega]
  · refine ⟨nI ((v - 1) / 3), ?_, ?_⟩
    · unfold f_X3_ofComplaint
      rw [if_neg (show ¬ nI 3 = (0 : Int32) by decide), if_neg (show ¬ nI 3 = (1 : Int32) by decide), if_neg (show ¬ nI 3 = (2 : Int32) by decide), if_pos (show nI 3 = (3 : Int32) from rfl), f_grpOf hS hN eN hc v1 v2 hv, sb]
    · unfold f_X5_complaintOf
      rw [f_of, sb, if_neg (show ¬ nI 3 = (0 : Int32) by decide), if_neg (show ¬ nI 3 = (1 : Int32) by decide), if_neg (show ¬ nI 3 = (2 : Int32) by decide), if_pos (show nI 3 = (3 : Int32) from rfl), ag' (e := nI (202 + 10 * c) + 1) (n := 442) (203 + 10 * c) (nI_p _ 1 (by omega)) (by omega), sb, hv, f_group5 v1 v2, sb]
  · refine ⟨m 1 (205 + 10 * c), ?_, ?_⟩
    · unfold f_X3_ofComplaint
      rw [if_neg (show ¬ nI 4 = (0 : Int32) by decide), if_neg (show ¬ nI 4 = (1 : Int32) by decide), if_neg (show ¬ nI 4 = (2 : Int32) by decide), if_neg (show ¬ nI 4 = (3 : Int32) by decide), if_pos (show nI 4 = (4 : Int32) from rfl), f_stageOf hS hN eN hc, sb]
    · unfold f_X5_complaintOf
      rw [f_of, sb, if_neg (show ¬ nI 4 = (0 : Int32) by decide), if_neg (show ¬ nI 4 = (1 : Int32) by decide), if_neg (show ¬ nI 4 = (2 : Int32) by decide), if_neg (show ¬ nI 4 = (3 : Int32) by decide), if_pos (show nI 4 = (4 : Int32) from rfl), h91 4 (by decide) (by decide), show 202 + 10 * c + 4 - 1 = 205 + 10 * c by omega]
  · refine ⟨m 1 (206 + 10 * c), ?_, ?_⟩
    · unfold f_X3_ofComplaint
      rw [if_neg (show ¬ nI 5 = (0 : Int32) by decide), if_neg (show ¬ nI 5 = (1 : Int32) by decide), if_neg (show ¬ nI 5 = (2 : Int32) by decide), if_neg (show ¬ nI 5 = (3 : Int32) by decide), if_neg (show ¬ nI 5 = (4 : Int32) by decide), if_pos (show nI 5 = (5 : Int32) from rfl), f_amC hS hN eN hc, sb]
    · unfold f_X5_complaintOf
      rw [f_of, sb, if_neg (show ¬ nI 5 = (0 : Int32) by decide), if_neg (show ¬ nI 5 = (1 : Int32) by decide), if_neg (show ¬ nI 5 = (2 : Int32) by decide), if_neg (show ¬ nI 5 = (3 : Int32) by decide), if_neg (show ¬ nI 5 = (4 : Int32) by decide), if_pos (show nI 5 = (5 : Int32) from rfl), h91 5 (by decide) (by decide), show 202 + 10 * c + 5 - 1 = 206 + 10 * c by omega]
  · refine ⟨m 1 (207 + 10 * c), ?_, ?_⟩
    · unfold f_X3_ofComplaint
      rw [if_neg (show ¬ nI 6 = (0 : Int32) by decide), if_neg (show ¬ nI 6 = (1 : Int32) by decide), if_neg (show ¬ nI 6 = (2 : Int32) by decide), if_neg (show ¬ nI 6 = (3 : Int32) by decide), if_neg (show ¬ nI 6 = (4 : Int32) by decide), if_neg (show ¬ nI 6 = (5 : Int32) by decide), if_pos (show nI 6 = (6 : Int32) from rfl), f_gotOf hS hN eN hc, sb]
    · unfold f_X5_complaintOf
      rw [f_of, sb, if_neg (show ¬ nI 6 = (0 : Int32) by decide), if_neg (show ¬ nI 6 = (1 : Int32) by decide), if_neg (show ¬ nI 6 = (2 : Int32) by decide), if_neg (show ¬ nI 6 = (3 : Int32) by decide), if_neg (show ¬ nI 6 = (4 : Int32) by decide), if_neg (show ¬ nI 6 = (5 : Int32) by decide), if_pos (show nI 6 = (6 : Int32) from rfl), h91 6 (by decide) (by decide), show 202 + 10 * c + 6 - 1 = 207 + 10 * c by omega]
  · refine ⟨m 1 (208 + 10 * c), ?_, ?_⟩
    · unfold f_X3_ofComplaint
      rw [if_neg (show ¬ nI 7 = (0 : Int32) by decide), if_neg (show ¬ nI 7 = (1 : Int32) by decide), if_neg (show ¬ nI 7 = (2 : Int32) by decide), if_neg (show ¬ nI 7 = (3 : Int32) by decide), if_neg (show ¬ nI 7 = (4 : Int32) by decide), if_neg (show ¬ nI 7 = (5 : Int32) by decide), if_neg (show ¬ nI 7 = (6 : Int32) by decide), if_pos (show nI 7 = (7 : Int32) from rfl), f_reaC hS hN eN hc, sb]
    · unfold f_X5_complaintOf
      rw [f_of, sb, if_neg (show ¬ nI 7 = (0 : Int32) by decide), if_neg (show ¬ nI 7 = (1 : Int32) by decide), if_neg (show ¬ nI 7 = (2 : Int32) by decide), if_neg (show ¬ nI 7 = (3 : Int32) by decide), if_neg (show ¬ nI 7 = (4 : Int32) by decide), if_neg (show ¬ nI 7 = (5 : Int32) by decide), if_neg (show ¬ nI 7 = (6 : Int32) by decide), if_pos (show nI 7 = (7 : Int32) from rfl), h91 7 (by decide) (by decide), show 202 + 10 * c + 7 - 1 = 208 + 10 * c by omega]
  · refine ⟨m 1 (209 + 10 * c), ?_, ?_⟩
    · unfold f_X3_ofComplaint
      rw [if_neg (show ¬ nI 8 = (0 : Int32) by decide), if_neg (show ¬ nI 8 = (1 : Int32) by decide), if_neg (show ¬ nI 8 = (2 : Int32) by decide), if_neg (show ¬ nI 8 = (3 : Int32) by decide), if_neg (show ¬ nI 8 = (4 : Int32) by decide), if_neg (show ¬ nI 8 = (5 : Int32) by decide), if_neg (show ¬ nI 8 = (6 : Int32) by decide), if_neg (show ¬ nI 8 = (7 : Int32) by decide), if_pos (show nI 8 = (8 : Int32) from rfl), f_monthOf hS hN eN hc, sb]
    · unfold f_X5_complaintOf
      rw [f_of, sb, if_neg (show ¬ nI 8 = (0 : Int32) by decide), if_neg (show ¬ nI 8 = (1 : Int32) by decide), if_neg (show ¬ nI 8 = (2 : Int32) by decide), if_neg (show ¬ nI 8 = (3 : Int32) by decide), if_neg (show ¬ nI 8 = (4 : Int32) by decide), if_neg (show ¬ nI 8 = (5 : Int32) by decide), if_neg (show ¬ nI 8 = (6 : Int32) by decide), if_neg (show ¬ nI 8 = (7 : Int32) by decide), if_pos (show nI 8 = (8 : Int32) from rfl), h91 8 (by decide) (by decide), show 202 + 10 * c + 8 - 1 = 209 + 10 * c by omega]
  · refine ⟨m 1 (211 + 10 * c), ?_, ?_⟩
    · unfold f_X3_ofComplaint
      rw [if_neg (show ¬ nI 9 = (0 : Int32) by decide), if_neg (show ¬ nI 9 = (1 : Int32) by decide), if_neg (show ¬ nI 9 = (2 : Int32) by decide), if_neg (show ¬ nI 9 = (3 : Int32) by decide), if_neg (show ¬ nI 9 = (4 : Int32) by decide), if_neg (show ¬ nI 9 = (5 : Int32) by decide), if_neg (show ¬ nI 9 = (6 : Int32) by decide), if_neg (show ¬ nI 9 = (7 : Int32) by decide), if_neg (show ¬ nI 9 = (8 : Int32) by decide), if_pos (show nI 9 = (9 : Int32) from rfl), f_tie hS hI hc, sb]
    · unfold f_X5_complaintOf
      rw [f_of, sb, if_neg (show ¬ nI 9 = (0 : Int32) by decide), if_neg (show ¬ nI 9 = (1 : Int32) by decide), if_neg (show ¬ nI 9 = (2 : Int32) by decide), if_neg (show ¬ nI 9 = (3 : Int32) by decide), if_neg (show ¬ nI 9 = (4 : Int32) by decide), if_neg (show ¬ nI 9 = (5 : Int32) by decide), if_neg (show ¬ nI 9 = (6 : Int32) by decide), if_neg (show ¬ nI 9 = (7 : Int32) by decide), if_neg (show ¬ nI 9 = (8 : Int32) by decide), if_pos (show nI 9 = (9 : Int32) from rfl), h919]
  · refine ⟨ow m c, ?_, ?_⟩
    · unfold f_X3_ofComplaint
      rw [if_neg (show ¬ nI 10 = (0 : Int32) by decide), if_neg (show ¬ nI 10 = (1 : Int32) by decide), if_neg (show ¬ nI 10 = (2 : Int32) by decide), if_neg (show ¬ nI 10 = (3 : Int32) by decide), if_neg (show ¬ nI 10 = (4 : Int32) by decide), if_neg (show ¬ nI 10 = (5 : Int32) by decide), if_neg (show ¬ nI 10 = (6 : Int32) by decide), if_neg (show ¬ nI 10 = (7 : Int32) by decide), if_neg (show ¬ nI 10 = (8 : Int32) by decide), if_neg (show ¬ nI 10 = (9 : Int32) by decide), (f_ow hS hI hc).2, sb]
    · unfold f_X5_complaintOf
      rw [f_of, sb, if_neg (show ¬ nI 10 = (0 : Int32) by decide), if_neg (show ¬ nI 10 = (1 : Int32) by decide), if_neg (show ¬ nI 10 = (2 : Int32) by decide), if_neg (show ¬ nI 10 = (3 : Int32) by decide), if_neg (show ¬ nI 10 = (4 : Int32) by decide), if_neg (show ¬ nI 10 = (5 : Int32) by decide), if_neg (show ¬ nI 10 = (6 : Int32) by decide), if_neg (show ¬ nI 10 = (7 : Int32) by decide), if_neg (show ¬ nI 10 = (8 : Int32) by decide), if_neg (show ¬ nI 10 = (9 : Int32) by decide), if_pos (show nI 10 = (10 : Int32) from rfl), (f_ow hS hI hc).1, sb]
theorem op_14 : P_14 RI := by
  intro x m a0 a1 h
  have hm2 : (ux m 0 6 0) 1 = m 1 := ux_ne (by decide)
  obtain ⟨⟨N, P, hI⟩, hF⟩ := h.2.1
  have hN := hI.1
  have eN := hI.2.1
  unfold f_X4_complaint t_X4_complaint f_X5_complaint
  simp -implicitDefEqProofs only [sb]
  rcases f_isC (m := ux m 0 6 0) hN (by rw [hm2]; exact eN) a0 with ⟨e, w⟩ | ⟨c, hc, rfl, e⟩
  · rw [(f_hasC h.1 hN eN a0).1 w, e]
    exact Or.inr ⟨1, 1, 0, ux (ux m 0 6 0) 0 6 1, Or.inl ⟨rfl, rfl⟩, rfl, rfl, ux_at, (h.thr 0).thr 1⟩
  rw [(f_hasC h.1 hN eN (nI c)).2 c hc rfl, e, sb, sb, sb, show f_X4_requireIndex 1 = some () from rfl, sb, if_neg (show ¬ (1 : Int32) = 0 by decide), if_neg (show ¬ (1 : Int32) = 0 by decide), in_eq]
  rcases within_cases a1 0 10 (by decide) (by decide) with w1 | ⟨v, v1, v2, rfl, w1⟩
  · have w1 : f_X4_isWithin a1 0 10 = some 0 := w1
    rw [w1]
    exact Or.inr ⟨2, 2, 0, ux (ux m 0 6 0) 0 6 2, Or.inr ⟨rfl, rfl⟩, rfl, rfl, ux_at, (h.thr 0).thr 2⟩
  · have w1 : f_X4_isWithin (nI v) 0 10 = some 1 := w1
    obtain ⟨r, r1, r2⟩ := r_complaint (b := 1) (x := x) (m := ux m 0 6 0) (by rw [hm2]; exact h.1) (by rw [hm2]; exact hI) hc v2
    rw [w1, sb, sb, sb, show f_X4_requireArgument 1 = some () from rfl, sb, if_neg (show ¬ (1 : Int32) = 0 by decide), r1, r2]
    exact Or.inl ⟨r, x, ux m 0 6 0, rfl, rfl, ux_at, h.thr 0⟩
theorem op_15 : P_15 RI := by
  intro x m a0 a1 a2 h
  have hm2 : (ux m 0 6 0) 1 = m 1 := ux_ne (by decide)
  obtain ⟨⟨N, P, hI⟩, hF⟩ := h.2.1
  have hN := hI.1
  unfold f_X4_amends t_X4_amends f_X5_amends
  simp -implicitDefEqProofs only [sb]
  rcases kind_cases a0 with ⟨h1, h2⟩ | ⟨k, hk, rfl, h1, h2⟩
  · rw [f_has0 h1, h2]
    exact Or.inr ⟨1, 1, 0, ux (ux m 0 6 0) 0 6 1, Or.inl ⟨rfl, rfl⟩, rfl, rfl, ux_at, (h.thr 0).thr 1⟩
  obtain ⟨s, hs, es⟩ := h.2.1.size hk
  rw [h2, sb, if_neg (show ¬ (1 : Int32) = 0 by decide)]
  rcases f_isAm (m := ux m 0 6 0) hk hs (by rw [hm2]; exact es) a1 with ⟨e, w⟩ | ⟨j, hj, rfl, e⟩
  · rw [(f_has h.1 hk hs es a1).1 w, e]
    exact Or.inr ⟨1, 1, 0, ux (ux m 0 6 0) 0 6 1, Or.inl ⟨rfl, rfl⟩, rfl, rfl, ux_at, (h.thr 0).thr 1⟩
  rw [(f_has h.1 hk hs es (nI j)).2 j hj rfl, e, sb, sb, sb, show f_X4_requireIndex 1 = some () from rfl, sb, if_neg (show ¬ (1 : Int32) = 0 by decide), if_neg (show ¬ (1 : Int32) = 0 by decide), in_eq]
  rcases within_cases a2 0 4 (by decide) (by decide) with w1 | ⟨v, v1, v2, rfl, w1⟩
  · have w1 : f_X4_isWithin a2 0 4 = some 0 := w1
    rw [w1]
    exact Or.inr ⟨2, 2, 0, ux (ux m 0 6 0) 0 6 2, Or.inr ⟨rfl, rfl⟩, rfl, rfl, ux_at, (h.thr 0).thr 2⟩
  have w1 : f_X4_isWithin (nI v) 0 4 = some 1 := w1
  have hA : hasA (m 1) k j := ⟨s, hs, es, hj⟩
  rw [w1, sb, sb, sb, show f_X4_requireArgument 1 = some () from rfl, sb, if_neg (show ¬ (1 : Int32) = 0 by decide)]
  left
  have hm : ∀ q, q ≤ 3 → f_X5_amendsOf (ux m 0 6 0) (nI k) (nI j) (nI q) = some (m 1 (10 + 28 * k + 4 * j + q)) := fun q hq => by
    unfold f_X5_amendsOf
    rw [if_neg (show ¬ nI q = 4 from fun w => absurd ((nI_eq (b := 4) (by omega) (by decide)).mp w) (by omega)), f_menuAt, sb, ag' (e := nI (10 + 28 * k + 4 * j) + nI q) (n := 442) (10 + 28 * k + 4 * j + q) (nI_add _ _) (by omega), sb, hm2]
  rcases (show v = 0 ∨ v = 1 ∨ v = 2 ∨ v = 3 ∨ v = 4 by omega) with rfl | rfl | rfl | rfl | rfl
  · rw [hm 0 (by decide), if_pos (show nI 0 = (0 : Int32) from rfl), f_costX h.1 hk hA]
    exact ⟨_, x, ux m 0 6 0, rfl, rfl, ux_at, h.thr 0⟩
  · rw [hm 1 (by decide), if_neg (show ¬ nI 1 = (0 : Int32) by decide), if_pos (show nI 1 = (1 : Int32) from rfl), f_leastX h.1 hk hA]
    exact ⟨_, x, ux m 0 6 0, rfl, rfl, ux_at, h.thr 0⟩
  · rw [hm 2 (by decide), if_neg (show ¬ nI 2 = (0 : Int32) by decide), if_neg (show ¬ nI 2 = (1 : Int32) by decide), if_pos (show nI 2 = (2 : Int32) from rfl), f_mostX h.1 hk hA]
    exact ⟨_, x, ux m 0 6 0, rfl, rfl, ux_at, h.thr 0⟩
  · rw [hm 3 (by decide), if_neg (show ¬ nI 3 = (0 : Int32) by decide), if_neg (show ¬ nI 3 = (1 : Int32) by decide), if_neg (show ¬ nI 3 = (2 : Int32) by decide), if_pos (show nI 3 = (3 : Int32) from rfl)]
    have hoff : f_X1_isOffered 1 x (nI k) (nI j) = some (m 1 (10 + 28 * k + 4 * j + 3)) := by
      unfold f_X1_isOffered
      rw [(f_has h.1 hk hs es (nI j)).2 j hj rfl, sb, if_neg (show ¬ (1 : Int32) = 0 by decide), ix6, ag (by omega), sb, show x (1 + 6) (6 * k + j) = m 1 (10 + 28 * k + 4 * j + 3) from sm_am (j := 3) h.1 (by decide) hk (by omega)]
      rcases hF.1 k j hk (by omega) with f0 | f0
      · rw [show 13 + 28 * k + 4 * j = 10 + 28 * k + 4 * j + 3 by omega] at f0
        rw [f0, if_neg (show ¬ (0 : Int32) = 1 by decide)]
      · rw [show 13 + 28 * k + 4 * j = 10 + 28 * k + 4 * j + 3 by omega] at f0
        rw [f0, if_pos rfl]
    rw [hoff]
    rcases hF.1 k j hk (by omega) with f0 | f0
    · rw [show 13 + 28 * k + 4 * j = 10 + 28 * k + 4 * j + 3 by omega] at f0
      rw [f0]
      exact ⟨_, x, ux m 0 6 0, rfl, rfl, ux_at, h.thr 0⟩
    · rw [show 13 + 28 * k + 4 * j = 10 + 28 * k + 4 * j + 3 by omega] at f0
      rw [f0]
      exact ⟨_, x, ux m 0 6 0, rfl, rfl, ux_at, h.thr 0⟩
  · rw [if_neg (show ¬ nI 4 = (0 : Int32) by decide), if_neg (show ¬ nI 4 = (1 : Int32) by decide), if_neg (show ¬ nI 4 = (2 : Int32) by decide), if_neg (show ¬ nI 4 = (3 : Int32) by decide), x_having h.1 hI]
    unfold f_X5_amendsOf
    rw [if_pos (show nI 4 = (4 : Int32) from rfl), m_having (m := ux m 0 6 0) (by rw [hm2]; exact hI), hm2]
    exact ⟨_, x, ux m 0 6 0, rfl, rfl, ux_at, h.thr 0⟩
theorem grp_cases (a : Int32) : (f_X4_isGroup a = some 0 ∧ f_X5_in a 0 2 = some 0) ∨ ∃ g, g < 3 ∧ a = nI g ∧ f_X4_isGroup a = some 1 ∧ f_X5_in a 0 2 = some 1 := by
  rw [in_eq]
  unfold f_X4_isGroup
  rcases pk_ix a (n := 3) (by decide) with h | h | ⟨j, hj, rfl⟩
  · exact Or.inl ⟨if_pos h, if_pos h⟩
  · have h0 : ¬ a < 0 := fun q => absurd (Int32.lt_of_le_of_lt h q) (by decide)
    have h3 : (2 : Int32) < a := Int32.lt_of_lt_of_le (by decide) h
    exact Or.inl ⟨by rw [if_neg h0]; exact if_pos h, by unfold f_X4_isWithin; rw [if_neg h0, if_pos h3]⟩
  · refine Or.inr ⟨j, hj, rfl, ?_⟩
    rcases (show j = 0 ∨ j = 1 ∨ j = 2 by omega) with rfl | rfl | rfl <;> decide +kernel
theorem op_16 : P_16 RI := by
  intro x m a0 a1 a2 h
  have hm2 : (ux m 0 6 0) 1 = m 1 := ux_ne (by decide)
  obtain ⟨⟨N, P, hI⟩, hF⟩ := h.2.1
  have hN := hI.1
  have hP := hI.P24
  have eP := hI.2.2.2.1
  unfold f_X4_precedent t_X4_precedent f_X5_precedent
  simp -implicitDefEqProofs only [sb]
  rcases kind_cases a0 with ⟨h1, h2⟩ | ⟨k, hk, rfl, h1, h2⟩
  · rw [h1, h2]
    exact Or.inr ⟨1, 1, 0, ux (ux m 0 6 0) 0 6 1, Or.inl ⟨rfl, rfl⟩, rfl, rfl, ux_at, (h.thr 0).thr 1⟩
  rcases grp_cases a1 with ⟨g1, g2⟩ | ⟨g, hg, rfl, g1, g2⟩
  · rw [h1, h2, g1, g2]
    exact Or.inr ⟨1, 1, 0, ux (ux m 0 6 0) 0 6 1, Or.inl ⟨rfl, rfl⟩, rfl, rfl, ux_at, (h.thr 0).thr 1⟩
  rw [h1, h2, g1, g2, sb, sb, sb, sb, if_neg (show ¬ (1 : Int32) = 0 by decide), if_neg (show ¬ (1 : Int32) = 0 by decide), if_neg (show ¬ (1 : Int32) = 0 by decide), if_neg (show ¬ (1 : Int32) = 0 by decide), in_eq]
  unfold f_X4_precedent_19 t_X4_precedent_19
  rw [show f_X4_requireIndex 1 = some () from rfl, sb, if_neg (show ¬ (1 : Int32) = 0 by decide)]
  rcases within_cases a2 0 4 (by decide) (by decide) with w1 | ⟨v, v1, v2, rfl, w1⟩
  · have w1 : f_X4_isWithin a2 0 4 = some 0 := w1
    rw [w1]
    exact Or.inr ⟨2, 2, 0, ux (ux m 0 6 0) 0 6 2, Or.inr ⟨rfl, rfl⟩, rfl, rfl, ux_at, (h.thr 0).thr 2⟩
  have w1 : f_X4_isWithin (nI v) 0 4 = some 1 := w1
  have hL := f_latX (b := 1) (x := x) (z := m 1) h.1 hk hg
  rw [w1, sb, sb, sb, show f_X4_requireArgument 1 = some () from rfl, sb, if_neg (show ¬ (1 : Int32) = 0 by decide), hL, sb]
  left
  unfold f_X5_precedentOf
  rw [f_lat5 hk hg, sb, hm2]
  rcases hI.2.2.2.2.2.2.2.2 (3 * k + g) (by omega) with q | ⟨p, s9, b1, b2, -⟩
  · rw [q, (f_hasP h.1 hP eP (-1)).1 (Or.inl (by decide)), if_pos (show (-1 : Int32) = -1 from rfl)]
    exact ⟨_, x, ux m 0 6 0, rfl, rfl, ux_at, h.thr 0⟩
  rw [b2, (f_hasP h.1 hP eP (nI p)).2 p b1 rfl, sb, if_neg (show ¬ (1 : Int32) = 0 by decide), if_neg (show ¬ nI p = -1 from fun w => nI_pos (n := p) (by omega) (by rw [w]; decide))]
  have hm : ∀ q, q < 3 → aget 442 (m 1) ((130 + (3 * nI p)) + nI q) = some (m 1 (130 + 3 * p + q)) := fun q hq => by
    rw [e_pr, ag' (e := nI (130 + 3 * p) + nI q) (n := 442) (130 + 3 * p + q) (nI_add _ _) (by omega)]
  rcases (show v = 0 ∨ v = 1 ∨ v = 2 ∨ v = 3 ∨ v = 4 by omega) with rfl | rfl | rfl | rfl | rfl
  · rw [if_pos (show nI 0 = (0 : Int32) from rfl), if_neg (show ¬ (3 : Int32) ≤ nI 0 by decide), hm 0 (by decide), f_amP h.1 hP eP b1]
    exact ⟨_, x, ux m 0 6 0, rfl, rfl, ux_at, h.thr 0⟩
  · rw [if_neg (show ¬ nI 1 = (0 : Int32) by decide), if_pos (show nI 1 = (1 : Int32) from rfl), if_neg (show ¬ (3 : Int32) ≤ nI 1 by decide), hm 1 (by decide), f_monP h.1 hP eP b1]
    exact ⟨_, x, ux m 0 6 0, rfl, rfl, ux_at, h.thr 0⟩
  · rw [if_neg (show ¬ nI 2 = (0 : Int32) by decide), if_neg (show ¬ nI 2 = (1 : Int32) by decide), if_pos (show nI 2 = (2 : Int32) from rfl), if_neg (show ¬ (3 : Int32) ≤ nI 2 by decide), hm 2 (by decide), f_setP h.1 hP eP b1, show 132 + 3 * p = 130 + 3 * p + 2 by omega]
    exact ⟨_, x, ux m 0 6 0, rfl, rfl, ux_at, h.thr 0⟩
  · rw [if_neg (show ¬ nI 3 = (0 : Int32) by decide), if_neg (show ¬ nI 3 = (1 : Int32) by decide), if_neg (show ¬ nI 3 = (2 : Int32) by decide), if_pos (show nI 3 = (3 : Int32) from rfl), if_pos (show (3 : Int32) ≤ nI 3 by decide)]
    have hb := f_binds (b := 1) (x := x) (m := ux m 0 6 0) (N := N) (P := P) (by rw [hm2]; exact h.1) (by rw [hm2]; exact hI) hk hg b1 (by rw [hm2]; exact b2)
    rcases hb with ⟨f1, f2⟩ | ⟨f1, f2⟩
    · rw [f1, f2]
      exact ⟨_, x, ux m 0 6 0, rfl, rfl, ux_at, h.thr 0⟩
    · rw [f1, f2]
      exact ⟨_, x, ux m 0 6 0, rfl, rfl, ux_at, h.thr 0⟩
  · rw [if_neg (show ¬ nI 4 = (0 : Int32) by decide), if_neg (show ¬ nI 4 = (1 : Int32) by decide), if_neg (show ¬ nI 4 = (2 : Int32) by decide), if_neg (show ¬ nI 4 = (3 : Int32) by decide), if_pos (show (3 : Int32) ≤ nI 4 by decide), if_neg (show ¬ nI 4 = (3 : Int32) by decide), x_fol h.1 hI, m_fol (m := ux m 0 6 0) (by rw [hm2]; exact hI), hm2]
    exact ⟨_, x, ux m 0 6 0, rfl, rfl, ux_at, h.thr 0⟩
theorem op_17 : P_17 RI := by
  intro x m a0 a1 h
  have hm2 : (ux m 0 6 0) 1 = m 1 := ux_ne (by decide)
  obtain ⟨⟨N, P, hI⟩, hF⟩ := h.2.1
  have hS2 : Sim 1 x ((ux m 0 6 0) 1) := by rw [hm2]; exact h.1
  have hI2 : InvNP ((ux m 0 6 0) 1) N P := by rw [hm2]; exact hI
  unfold f_X4_kind t_X4_kind f_X5_kind
  simp -implicitDefEqProofs only [sb]
  rcases kind_cases a0 with ⟨h1, h2⟩ | ⟨k, hk, rfl, h1, h2⟩
  · rw [h1, h2]
    exact Or.inr ⟨1, 1, 0, ux (ux m 0 6 0) 0 6 1, Or.inl ⟨rfl, rfl⟩, rfl, rfl, ux_at, (h.thr 0).thr 1⟩
  rw [h1, h2, sb, sb, sb, show f_X4_requireIndex 1 = some () from rfl, sb, if_neg (show ¬ (1 : Int32) = 0 by decide), if_neg (show ¬ (1 : Int32) = 0 by decide), in_eq]
  rcases within_cases a1 0 7 (by decide) (by decide) with w1 | ⟨v, v1, v2, rfl, w1⟩
  · have w1 : f_X4_isWithin a1 0 7 = some 0 := w1
    rw [w1]
    exact Or.inr ⟨2, 2, 0, ux (ux m 0 6 0) 0 6 2, Or.inr ⟨rfl, rfl⟩, rfl, rfl, ux_at, (h.thr 0).thr 2⟩
  have w1 : f_X4_isWithin (nI v) 0 7 = some 1 := w1
  rw [w1, sb, sb, sb, show f_X4_requireArgument 1 = some () from rfl, sb, if_neg (show ¬ (1 : Int32) = 0 by decide)]
  left
  unfold f_X5_kindOf
  obtain ⟨s, hs, es⟩ := h.2.1.size hk
  obtain ⟨o1, o2, o3⟩ := m_kinds hS2 hI2 hk
  have hm : ∀ q, q < 3 → aget 442 ((ux m 0 6 0) 1) (nI (6 + 28 * k) + nI q) = some (m 1 (6 + 28 * k + q)) := fun q hq => by
    rw [ag' (e := nI (6 + 28 * k) + nI q) (n := 442) (6 + 28 * k + q) (nI_add _ _) (by omega), hm2]
  have N0 : ∀ i j : Nat, i < 24 → j < 24 → i ≠ j → ¬ nI i = nI j := fun i j hi hj hij w => hij ((nI_eq (by omega) (by omega)).mp w)
  rcases (show v = 0 ∨ v = 1 ∨ v = 2 ∨ v = 3 ∨ v = 4 ∨ v = 5 ∨ v = 6 ∨ v = 7 by omega) with rfl | rfl | rfl | rfl | rfl | rfl | rfl | rfl
  · unfold f_X3_baseOf
    rw [if_pos (show nI 0 = (0 : Int32) from rfl), h1, sb, if_neg (show ¬ (1 : Int32) = 0 by decide), ag hk, sb, sm_base h.1 hk, if_neg (show ¬ (3 : Int32) ≤ nI 0 by decide), f_at, sb, sb, hm 0 (by decide)]
    exact ⟨_, x, ux m 0 6 0, rfl, rfl, ux_at, h.thr 0⟩
  · unfold f_X3_budgetOf
    rw [if_neg (show ¬ nI 1 = (0 : Int32) by decide), if_pos (show nI 1 = (1 : Int32) from rfl), h1, sb, if_neg (show ¬ (1 : Int32) = 0 by decide), ag hk, sb, sm_bud h.1 hk, if_neg (show ¬ (3 : Int32) ≤ nI 1 by decide), f_at, sb, sb, hm 1 (by decide), show 6 + 28 * k + 1 = 7 + 28 * k by omega]
    exact ⟨_, x, ux m 0 6 0, rfl, rfl, ux_at, h.thr 0⟩
  · unfold f_X3_spentOf
    rw [if_neg (show ¬ nI 2 = (0 : Int32) by decide), if_neg (show ¬ nI 2 = (1 : Int32) by decide), if_pos (show nI 2 = (2 : Int32) from rfl), h1, sb, if_neg (show ¬ (1 : Int32) = 0 by decide), ag hk, sb, sm_spent h.1 hk, if_neg (show ¬ (3 : Int32) ≤ nI 2 by decide), f_at, sb, sb, hm 2 (by decide), show 6 + 28 * k + 2 = 8 + 28 * k by omega]
    exact ⟨_, x, ux m 0 6 0, rfl, rfl, ux_at, h.thr 0⟩
  · rw [if_neg (show ¬ nI 3 = (0 : Int32) by decide), if_neg (show ¬ nI 3 = (1 : Int32) by decide), if_neg (show ¬ nI 3 = (2 : Int32) by decide), if_pos (show nI 3 = (3 : Int32) from rfl), if_pos (show (3 : Int32) ≤ nI 3 by decide), f_leftX h.1 hk, f_left5 hk, hm2]
    exact ⟨_, x, ux m 0 6 0, rfl, rfl, ux_at, h.thr 0⟩
  · rw [if_neg (show ¬ nI 4 = (0 : Int32) by decide), if_neg (show ¬ nI 4 = (1 : Int32) by decide), if_neg (show ¬ nI 4 = (2 : Int32) by decide), if_neg (show ¬ nI 4 = (3 : Int32) by decide), if_pos (show nI 4 = (4 : Int32) from rfl), if_pos (show (3 : Int32) ≤ nI 4 by decide), if_neg (show ¬ nI 4 = (3 : Int32) by decide), f_size h.1 hk es, if_pos (show nI 4 = (4 : Int32) from rfl), f_at, sb, sb, ag' (e := nI (6 + 28 * k) + 3) (n := 442) (9 + 28 * k) (nI_p _ 3 (by omega)) (by omega), hm2, es]
    exact ⟨_, x, ux m 0 6 0, rfl, rfl, ux_at, h.thr 0⟩
  · rw [if_neg (show ¬ nI 5 = (0 : Int32) by decide), if_neg (show ¬ nI 5 = (1 : Int32) by decide), if_neg (show ¬ nI 5 = (2 : Int32) by decide), if_neg (show ¬ nI 5 = (3 : Int32) by decide), if_neg (show ¬ nI 5 = (4 : Int32) by decide), if_pos (show nI 5 = (5 : Int32) from rfl), if_pos (show (3 : Int32) ≤ nI 5 by decide), if_neg (show ¬ nI 5 = (3 : Int32) by decide), if_neg (show ¬ nI 5 = (4 : Int32) by decide), x_ofKind hS2 hI2]
    have o1 : f_X5_ofComplaints (ux m 0 6 0) (nI k) (nI 5) = _ := o1
    rw [o1]
    exact ⟨_, x, ux m 0 6 0, rfl, rfl, ux_at, h.thr 0⟩
  · rw [if_neg (show ¬ nI 6 = (0 : Int32) by decide), if_neg (show ¬ nI 6 = (1 : Int32) by decide), if_neg (show ¬ nI 6 = (2 : Int32) by decide), if_neg (show ¬ nI 6 = (3 : Int32) by decide), if_neg (show ¬ nI 6 = (4 : Int32) by decide), if_neg (show ¬ nI 6 = (5 : Int32) by decide), if_pos (show nI 6 = (6 : Int32) from rfl), if_pos (show (3 : Int32) ≤ nI 6 by decide), if_neg (show ¬ nI 6 = (3 : Int32) by decide), if_neg (show ¬ nI 6 = (4 : Int32) by decide), x_gotK hS2 hI2]
    have o2 : f_X5_ofComplaints (ux m 0 6 0) (nI k) (nI 6) = _ := o2
    rw [o2]
    exact ⟨_, x, ux m 0 6 0, rfl, rfl, ux_at, h.thr 0⟩
  · rw [if_neg (show ¬ nI 7 = (0 : Int32) by decide), if_neg (show ¬ nI 7 = (1 : Int32) by decide), if_neg (show ¬ nI 7 = (2 : Int32) by decide), if_neg (show ¬ nI 7 = (3 : Int32) by decide), if_neg (show ¬ nI 7 = (4 : Int32) by decide), if_neg (show ¬ nI 7 = (5 : Int32) by decide), if_neg (show ¬ nI 7 = (6 : Int32) by decide), if_pos (show (3 : Int32) ≤ nI 7 by decide), if_neg (show ¬ nI 7 = (3 : Int32) by decide), if_neg (show ¬ nI 7 = (4 : Int32) by decide), x_owedK hS2 hI2]
    have o3 : f_X5_ofComplaints (ux m 0 6 0) (nI k) (nI 7) = _ := o3
    rw [o3]
    exact ⟨_, x, ux m 0 6 0, rfl, rfl, ux_at, h.thr 0⟩
