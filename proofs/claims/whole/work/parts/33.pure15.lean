/-! ===== what speaks against a decision ===== -/
theorem grp {v : Nat} (h1 : 1 ≤ v) (h2 : v ≤ 9) : (nI v - 1) / 3 = nI ((v - 1) / 3) := by
  rcases (show v = 1 ∨ v = 2 ∨ v = 3 ∨ v = 4 ∨ v = 5 ∨ v = 6 ∨ v = 7 ∨ v = 8 ∨ v = 9 by omega) with rfl | rfl | rfl | rfl | rfl | rfl | rfl | rfl | rfl <;> decide +kernel
theorem f_group5 {v : Nat} (h1 : 1 ≤ v) (h2 : v ≤ 9) : f_X5_group (nI v) = some (nI ((v - 1) / 3)) := congrArg some (grp h1 h2)
theorem f_grpOf {b : Nat} {x : XS} {z : ZS} (hS : Sim b x z) {N c v : Nat} (hN : N ≤ 24) (e : z 0 = nI N) (hc : c < N) (h1 : 1 ≤ v) (h2 : v ≤ 9) (hv : z (203 + 10 * c) = nI v) : f_X0_groupOf b x (nI c) = some (nI ((v - 1) / 3)) := by
  unfold f_X0_groupOf
  rw [(f_hasC hS hN e _).2 c hc rfl, sb, if_neg (by decide), ag (by omega), sb, show x (b + 9) c = nI v from (sm_co (j := 1) hS (by decide) (by omega)).trans ((by rw [show 202 + 10 * c + 1 = 203 + 10 * c by omega]; exact hv)), grp h1 h2]
theorem f_lat5 {m : XS} {k g : Nat} (hk : k < 4) (hg : g < 3) : f_X5_latest m (nI k) (nI g) = some (m 1 (118 + (3 * k + g))) := by
  unfold f_X5_latest
  rw [ag' (e := 118 + 3 * nI k + nI g) (n := 442) (118 + (3 * k + g)) (by show nI 118 + nI 3 * nI k + nI g = _; rw [pk_mul, nI_add, nI_add, Nat.add_assoc]) (by omega), sb]
theorem f_grp1 {g : Nat} (hg : g < 3) : f_X4_isGroup (nI g) = some 1 := by
  rcases (show g = 0 ∨ g = 1 ∨ g = 2 by omega) with rfl | rfl | rfl <;> decide +kernel
theorem f_latX {b : Nat} {x : XS} {z : ZS} (hS : Sim b x z) {k g : Nat} (hk : k < 4) (hg : g < 3) : f_X2_latestOf b x (nI k) (nI g) = some (z (118 + (3 * k + g))) := by
  unfold f_X2_latestOf
  rw [f_kind1 hk, sb, if_neg (by decide), f_grp1 hg, sb, if_neg (by decide), ag' (e := nI k * 3 + nI g) (n := 12) (3 * k + g) (by show nI k * nI 3 + nI g = _; rw [pk_mul, nI_add, Nat.mul_comm k 3]) (by omega), sb, sm_lat hS (by omega)]
theorem f_pr5 {m : XS} {p j : Nat} (hp : p < 24) (hj : j < 3) : aget 442 (m 1) (nI (130 + 3 * p) + nI j) = some (m 1 (130 + 3 * p + j)) := ag' _ (nI_add _ _) (by omega)
theorem e_pr (p : Nat) : (130 : Int32) + 3 * nI p = nI (130 + 3 * p) := by show nI 130 + nI 3 * nI p = _; rw [pk_mul, nI_add]
theorem f_bind {b : Nat} {x m : XS} (hS : Sim b x (m 1)) {N P c k v : Nat} (hI : InvNP (m 1) N P) (hc : c < N) (hk : kd (m 1) c k) (h1 : 1 ≤ v) (h2 : v ≤ 9) (hv : m 1 (203 + 10 * c) = nI v) :
    (f_X5_binds m (nI k) (nI ((v - 1) / 3)) = some 0 ∧ f_X3_bindingFor b x (nI c) = some (-1)) ∨ ∃ p, p < P ∧ m 1 (118 + (3 * k + (v - 1) / 3)) = nI p ∧ f_X5_binds m (nI k) (nI ((v - 1) / 3)) = some 1 ∧ f_X3_bindingFor b x (nI c) = some (nI p) := by
  have hP := hI.P24
  have eP := hI.2.2.2.1
  obtain ⟨s, s1, s2⟩ := hI.2.2.2.2.2.1 k hk.1
  have hL := hI.2.2.2.2.2.2.2.2 (3 * k + (v - 1) / 3) (by have := hk.1; omega)
  unfold f_X5_binds f_X3_bindingFor
  rw [f_kindOf hS hI.1 hI.2.1 hc, sb, hk.2, f_grpOf hS hI.1 hI.2.1 hc h1 h2 hv, sb, f_latX hS hk.1 (by omega), sb, f_lat5 hk.1 (by omega), sb]
  unfold f_X3_isBinding
  rcases hL with q | ⟨p, s9, b1, b2, -⟩
  · left
    rw [q, (f_hasP hS hP eP (-1)).1 (Or.inl (by decide)), if_pos rfl]
    exact ⟨rfl, rfl⟩
  · rw [b2, (f_hasP hS hP eP (nI p)).2 p b1 rfl, f_monP hS hP eP b1, f_amP hS hP eP b1]
    unfold f_X3_settingOf
    rw [show f_X4_isSetting 0 = some 1 from by decide +kernel, sb, sb, sb, if_neg (show ¬ nI p = -1 from fun w => nI_pos (n := p) (by omega) (by rw [w]; decide)), if_neg (show ¬ (1 : Int32) = 0 by decide), if_neg (show ¬ (1 : Int32) = 0 by decide), ag' (e := 0) (n := 3) 0 rfl (by decide), sb, sb, sm_set hS (j := 0) (by decide), sm_month hS]
    rw [ag' (e := 1) (n := 442) 1 rfl (by decide), sb, e_pr, ag' (e := nI (130 + 3 * p) + 1) (n := 442) (130 + 3 * p + 1) (nI_1 _) (by omega), sb, ag' (e := 2) (n := 442) 2 rfl (by decide), sb]
    by_cases w : m 1 2 ≤ m 1 1 - m 1 (130 + 3 * p + 1)
    · left
      rw [if_pos w, if_pos w]
      exact ⟨rfl, rfl⟩
    · rw [if_neg w, if_neg w, ag (by omega), sb, sb]
      rcases f_isOff hS hk.1 s1 s2 (m 1 (130 + 3 * p)) with ⟨f1, f2⟩ | ⟨-, -, -, -, f1, f2⟩
      · left
        rw [f1, f2]
        exact ⟨rfl, rfl⟩
      · right
        rw [f1, f2]
        exact ⟨p, b1, rfl, rfl, rfl⟩
