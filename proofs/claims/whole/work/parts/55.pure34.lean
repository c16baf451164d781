/-! ===== the digest: its numbers ===== -/
theorem wi1 {lo hi v : Nat} (h1 : lo ≤ v) (h2 : v ≤ hi) (hh : hi < 2 ^ 30) : f_X4_isWithin (nI v) (nI lo) (nI hi) = some 1 := by
  unfold f_X4_isWithin
  rw [if_neg (nI_nlt h1 (by omega)), if_neg (nI_nlt h2 (by omega))]
theorem ux_id {m : XS} (h : m 0 6 = 0) : ux m 0 6 0 = m := by
  funext k j
  by_cases hk : k = 0
  · by_cases hj : j = 6
    · subst hk; subst hj
      rw [ux_at, h]
    · rw [hk, ux_j hj]
  · rw [ux_k hk]
theorem bind_fst {o : Option Int32} {m m1 : XS} {r : Int32} (h : (o.bind fun v => some (v, m)) = some (r, m1)) : o = some r := by
  cases o with
  | none => cases h
  | some v => cases h; rfl
theorem isC1 {m : XS} {N c : Nat} (hN : N ≤ 24) (e : m 1 0 = nI N) (hc : c < N) : f_X5_isComplaint m (nI c) = some 1 := by
  rcases f_isC hN e (nI c) with ⟨-, w | w⟩ | ⟨j, hj, ej, e⟩
  · exact absurd w (nI_pos (by omega))
  · exact absurd w (nI_ge hc (by omega))
  · exact e
theorem isA1 {m : XS} {k s j : Nat} (hk : k < 4) (hs : s ≤ 6) (h : m 1 (9 + 28 * k) = nI s) (hj : j < s) : f_X5_isAmends m (nI k) (nI j) = some 1 := by
  rcases f_isAm hk hs h (nI j) with ⟨-, w | w⟩ | ⟨_, _, _, e⟩
  · exact absurd w (nI_pos (by omega))
  · exact absurd w (nI_ge hj (by omega))
  · exact e
theorem isK5 {k : Nat} (hk : k < 4) : f_X5_isKind (nI k) = some 1 := by
  rcases (show k = 0 ∨ k = 1 ∨ k = 2 ∨ k = 3 by omega) with rfl | rfl | rfl | rfl <;> decide +kernel
theorem d_count {x m : XS} (h : RI x m) (h0 : m 0 6 = 0) {w : Nat} (hw : w ≤ 11) : ∃ r, f_X4_count x (nI w) = some r ∧ f_X5_counted m (nI w) = some r := by
  have w1 : f_X4_isWithin (nI w) 0 11 = some 1 := wi1 (lo := 0) (hi := 11) (Nat.zero_le _) hw (by decide)
  rcases op_18 x m (nI w) h with ⟨r, x1, m1, e1, e2, -, -⟩ | ⟨k, kv, bb, m1, -, e1, -⟩
  · unfold f_X5_count at e2
    rw [sb, ux_id h0, in_eq, w1, sb, if_neg (show ¬ (1 : Int32) = 0 by decide)] at e2
    exact ⟨r, e1, bind_fst e2⟩
  · unfold t_X4_count at e1
    rw [w1, sb, if_neg (show ¬ (1 : Int32) = 0 by decide)] at e1
    cases e1
theorem d_set {x m : XS} (h : RI x m) {w : Nat} (hw : w < 3) : f_X4_setting x (nI w) = some (m 1 (2 + w)) := by
  have h1 : f_X4_isSetting (nI w) = some 1 := by
    rcases (show w = 0 ∨ w = 1 ∨ w = 2 by omega) with rfl | rfl | rfl <;> decide +kernel
  unfold f_X4_setting f_X3_settingOf
  rw [h1, sb, show f_X4_requireIndex 1 = some () from rfl, sb, sb, if_neg (show ¬ (1 : Int32) = 0 by decide), ag hw, sb, sb, sm_set h.1 hw]
theorem d_kind {x m : XS} (h : RI x m) (h0 : m 0 6 = 0) {k w : Nat} (hk : k < 4) (hw : w ≤ 7) : ∃ r, f_X4_kind x (nI k) (nI w) = some r ∧ f_X5_kindOf m (nI k) (nI w) = some r := by
  have w1 : f_X4_isWithin (nI w) 0 7 = some 1 := wi1 (lo := 0) (hi := 7) (Nat.zero_le _) hw (by decide)
  rcases op_17 x m (nI k) (nI w) h with ⟨r, x1, m1, e1, e2, -, -⟩ | ⟨kk, kv, bb, m1, -, e1, -⟩
  · unfold f_X5_kind at e2
    rw [sb, ux_id h0, isK5 hk, sb, if_neg (show ¬ (1 : Int32) = 0 by decide), in_eq, w1, sb, if_neg (show ¬ (1 : Int32) = 0 by decide)] at e2
    exact ⟨r, e1, bind_fst e2⟩
  · unfold t_X4_kind at e1
    rw [f_kind1 hk, sb, if_neg (show ¬ (1 : Int32) = 0 by decide), w1, sb, if_neg (show ¬ (1 : Int32) = 0 by decide)] at e1
    cases e1
theorem d_amends {x m : XS} (h : RI x m) (h0 : m 0 6 = 0) {k j s w : Nat} (hk : k < 4) (hs : s ≤ 6) (es : m 1 (9 + 28 * k) = nI s) (hj : j < s) (hw : w ≤ 4) : ∃ r, f_X4_amends x (nI k) (nI j) (nI w) = some r ∧ f_X5_amendsOf m (nI k) (nI j) (nI w) = some r := by
  have w1 : f_X4_isWithin (nI w) 0 4 = some 1 := wi1 (lo := 0) (hi := 4) (Nat.zero_le _) hw (by decide)
  rcases op_15 x m (nI k) (nI j) (nI w) h with ⟨r, x1, m1, e1, e2, -, -⟩ | ⟨kk, kv, bb, m1, -, e1, -⟩
  · unfold f_X5_amends at e2
    rw [sb, ux_id h0, isK5 hk, sb, if_neg (show ¬ (1 : Int32) = 0 by decide), isA1 hk hs es hj, sb, if_neg (show ¬ (1 : Int32) = 0 by decide), in_eq, w1, sb, if_neg (show ¬ (1 : Int32) = 0 by decide)] at e2
    exact ⟨r, e1, bind_fst e2⟩
  · unfold t_X4_amends at e1
    rw [(f_has h.1 hk hs es (nI j)).2 j hj rfl, sb, if_neg (show ¬ (1 : Int32) = 0 by decide), w1, sb, if_neg (show ¬ (1 : Int32) = 0 by decide)] at e1
    cases e1
theorem d_prec {x m : XS} (h : RI x m) (h0 : m 0 6 = 0) {k g w : Nat} (hk : k < 4) (hg : g < 3) (hw : w ≤ 4) : ∃ r, f_X4_precedent x (nI k) (nI g) (nI w) = some r ∧ f_X5_precedentOf m (nI k) (nI g) (nI w) = some r := by
  have w1 : f_X4_isWithin (nI w) 0 4 = some 1 := wi1 (lo := 0) (hi := 4) (Nat.zero_le _) hw (by decide)
  have g1 : f_X4_isWithin (nI g) 0 2 = some 1 := wi1 (lo := 0) (hi := 2) (Nat.zero_le _) (by omega) (by decide)
  rcases op_16 x m (nI k) (nI g) (nI w) h with ⟨r, x1, m1, e1, e2, -, -⟩ | ⟨kk, kv, bb, m1, -, e1, -⟩
  · unfold f_X5_precedent at e2
    rw [sb, ux_id h0, isK5 hk, sb, if_neg (show ¬ (1 : Int32) = 0 by decide), in_eq, g1, sb, if_neg (show ¬ (1 : Int32) = 0 by decide), in_eq, w1, sb, if_neg (show ¬ (1 : Int32) = 0 by decide)] at e2
    exact ⟨r, e1, bind_fst e2⟩
  · unfold t_X4_precedent t_X4_precedent_19 at e1
    rw [f_kind1 hk, sb, if_neg (show ¬ (1 : Int32) = 0 by decide), f_grp1 hg, sb, if_neg (show ¬ (1 : Int32) = 0 by decide), if_neg (show ¬ (1 : Int32) = 0 by decide), w1, sb, if_neg (show ¬ (1 : Int32) = 0 by decide)] at e1
    cases e1
theorem d_comp {x m : XS} (h : RI x m) (h0 : m 0 6 = 0) {N P c w : Nat} (hI : InvNP (m 1) N P) (hc : c < N) (hw : w ≤ 10) : ∃ r, f_X4_complaint x (nI c) (nI w) = some r ∧ f_X5_complaintOf m (nI c) (nI w) = some r := by
  have w1 : f_X4_isWithin (nI w) 0 10 = some 1 := wi1 (lo := 0) (hi := 10) (Nat.zero_le _) hw (by decide)
  obtain ⟨r, r1, r2⟩ := r_complaint h.1 hI hc hw
  unfold f_X4_complaint
  rw [(f_hasC h.1 hI.1 hI.2.1 (nI c)).2 c hc rfl, sb, show f_X4_requireIndex 1 = some () from rfl, sb, w1, sb, show f_X4_requireArgument 1 = some () from rfl, sb, r1, sb]
  exact ⟨r, rfl, r2⟩
theorem d_fair {x m : XS} (h : RI x m) (h0 : m 0 6 = 0) {N P c : Nat} (hI : InvNP (m 1) N P) (hc : c < N) : ∃ r, f_X4_fair x (nI c) = some r ∧ f_X5_fairOf m (nI c) = some r := by
  rcases op_22 x m (nI c) h with ⟨r, x1, m1, e1, e2, -, -⟩ | ⟨kk, kv, bb, m1, -, e1, -⟩
  · unfold f_X5_fair at e2
    rw [sb, ux_id h0, isC1 hI.1 hI.2.1 hc, sb, if_neg (show ¬ (1 : Int32) = 0 by decide)] at e2
    exact ⟨r, e1, bind_fst e2⟩
  · unfold t_X4_fair at e1
    rw [(f_hasC h.1 hI.1 hI.2.1 (nI c)).2 c hc rfl, sb, if_neg (show ¬ (1 : Int32) = 0 by decide)] at e1
    cases e1
theorem d_why {x m : XS} (h : RI x m) {N P c : Nat} (hI : InvNP (m 1) N P) (hc : c < N) : ∃ r, f_X4_whyNot x (nI c) 0 0 = some r ∧ f_X5_whyDecided m (nI c) 0 0 = some r := by
  obtain ⟨r, r1, r2, -⟩ := why_eq h.1 hI hc 0 0
  unfold f_X4_whyNot f_X4_whyNot_28 f_X4_whyNot_33
  rw [(f_hasC h.1 hI.1 hI.2.1 (nI c)).2 c hc rfl, sb, show f_X4_requireIndex 1 = some () from rfl, sb, if_neg (show ¬ (0 : Int32) = -1 by decide), show f_X4_isWithin 0 0 5 = some 1 from by decide +kernel, sb, if_neg (show ¬ (1 : Int32) = 0 by decide), show f_X4_requireArgument 1 = some () from rfl, sb, if_neg (show ¬ (0 : Int32) = -1 by decide), r1, sb]
  exact ⟨r, rfl, r2⟩
theorem d_cust {x m : XS} (h : RI x m) {N P q : Nat} (hI : InvNP (m 1) N P) (hq : q < 10) : ∃ r, f_X4_ofCustomer x (nI q) 0 = some r ∧ f_X5_customerAt m (nI q) 0 = some r := by
  have hN := hI.1
  have c1 : f_X4_isCustomer (nI q) = some 1 := by
    rcases (show q = 0 ∨ q = 1 ∨ q = 2 ∨ q = 3 ∨ q = 4 ∨ q = 5 ∨ q = 6 ∨ q = 7 ∨ q = 8 ∨ q = 9 by omega) with rfl | rfl | rfl | rfl | rfl | rfl | rfl | rfl | rfl | rfl <;> decide +kernel
  obtain ⟨r, r1, r2⟩ := f_cus h.1 hI (nI q) (w := 0) (by decide) N 4096 0 0 (by omega) (by omega) (by omega)
  have r1 : f_X0_ofOne 1 x (nI q) 0 = some r := r1
  have r2 : f_X5_customerAt m (nI q) 0 = some r := r2
  unfold f_X4_ofCustomer
  rw [c1, sb, show f_X4_requireIndex 1 = some () from rfl, sb, show f_X4_isWithin 0 0 23 = some 1 from by decide +kernel, sb, show f_X4_requireArgument 1 = some () from rfl, sb, r1, sb]
  exact ⟨r, rfl, r2⟩
theorem mx (g a : Int64) : f_X5_mix g a = some (31 * g + a) := rfl
theorem zipL {A B : Type} {F : Nat → Int64 → Int32 → A} {G : Nat → Int64 → Int32 → B} {FE : Int64 → A} {K o : Nat} (hFe : ∀ n acc, F (n + 1) acc (nI K) = FE acc)
    (hs : ∀ i, i < K → ∃ r : Int32, (∀ n acc, F (n + 1) acc (nI i) = F n (31 * acc + r.toInt64) (nI (i + 1))) ∧ ∀ n acc, G (n + 1) acc (nI (o + i)) = G n (31 * acc + r.toInt64) (nI (o + (i + 1)))) :
    ∀ q n n' i acc, i + q = K → q < n → q ≤ n' → ∃ acc', F n acc (nI i) = FE acc' ∧ G n' acc (nI (o + i)) = G (n' - q) acc' (nI (o + K)) := by
  intro q
  induction q with
  | zero =>
    intro n n' i acc hq hn hn'
    cases n with
    | zero => omega
    | succ n =>
      have e : i = K := by omega
      subst e
      exact ⟨acc, hFe n acc, rfl⟩
  | succ q ih =>
    intro n n' i acc hq hn hn'
    cases n with
    | zero => omega
    | succ n =>
      cases n' with
      | zero => omega
      | succ n' =>
        obtain ⟨r, r1, r2⟩ := hs i (by omega)
        obtain ⟨acc', a1, a2⟩ := ih n n' (i + 1) (31 * acc + r.toInt64) (by omega) (by omega) (by omega)
        exact ⟨acc', by rw [r1]; exact a1, by rw [r2, a2, show n' + 1 - (q + 1) = n' - q by omega]⟩
theorem ix5 {l j w : Nat} (hw : w < 5) (hl : l = 5 * j + w) (h : l < 1000) : nI l / 5 = nI j ∧ nI l - nI l / 5 * 5 = nI w := by
  refine ⟨?_, ?_⟩
  · rw [show (nI l / 5 : Int32) = nI (l / 5) from pk_div (d := 5) (by omega) (by decide) (by decide), show l / 5 = j by omega]
  · rw [show (nI l - nI l / 5 * 5 : Int32) = nI (l % 5) from pk_rem (d := 5) (by omega) (by decide) (by decide), show l % 5 = w by omega]
theorem g_prec {x m : XS} (h : RI x m) (h0 : m 0 6 = 0) {k : Nat} (hk : k < 4) (acc : Int64) : ∃ acc', f_X4_withKind_98 x 4096 (nI k) acc 0 = some acc' ∧ f_X5_mixKind_68 m 4096 acc (nI k) 0 = some acc' := by
  have inner : ∀ n n' g acc, g < 3 → 5 ≤ n' → ∃ acc', f_X4_withKind_98 x (n + 1) (nI k) acc (nI g) = f_X4_withKind_98 x n (nI k) acc' (nI (g + 1)) ∧ f_X5_mixKind_68 m n' acc (nI k) (nI (5 * g)) = f_X5_mixKind_68 m (n' - 5) acc' (nI k) (nI (5 * g + 5)) := by
    intro n n' g acc hg hn'
    obtain ⟨acc', a1, a2⟩ := zipL (F := fun n' acc i => f_X4_withKind_107 x (f_X4_withKind_98 x n) n' (nI k) acc (nI g) i) (G := fun n acc i => f_X5_mixKind_68 m n acc (nI k) i) (FE := fun acc => f_X4_withKind_98 x n (nI k) acc (nI (g + 1))) (K := 5) (o := 5 * g) (fun n' acc => by
        show (if (4 : Int32) < nI 5 then _ else _) = _
        rw [if_pos (show (4 : Int32) < nI 5 by decide), sb, nI_1]) (fun i hi => by
        obtain ⟨r, r1, r2⟩ := d_prec h h0 hk hg (w := i) (by omega)
        obtain ⟨i1, i2⟩ := ix5 (l := 5 * g + i) (j := g) (w := i) hi rfl (by omega)
        refine ⟨r, fun n acc => ?_, fun n acc => ?_⟩
        · show (if (4 : Int32) < nI i then _ else _) = _
          rw [if_neg (show ¬ (4 : Int32) < nI i from nI_nlt (b := i) (a := 4) (by omega) (by decide)), r1, sb, sb, sb, nI_1]
        · show (if (15 : Int32) ≤ nI (5 * g + i) then _ else _) = _
          rw [if_neg (show ¬ (15 : Int32) ≤ nI (5 * g + i) from nI_ge (a := 5 * g + i) (b := 15) (by omega) (by decide)), i2, i1, r2, sb, mx, sb, sb, nI_1]
          rfl) 5 4096 n' 0 acc (by decide) (by decide) hn'
    refine ⟨acc', ?_, a2⟩
    show (if (3 : Int32) ≤ nI g then _ else _) = _
    rw [if_neg (show ¬ (3 : Int32) ≤ nI g from nI_ge (a := g) (b := 3) hg (by decide))]
    exact a1
  obtain ⟨b1, p1, p2⟩ := inner 4095 4096 0 acc (by decide) (by decide)
  obtain ⟨b2, q1, q2⟩ := inner 4094 4091 1 b1 (by decide) (by decide)
  obtain ⟨b3, s1, s2⟩ := inner 4093 4086 2 b2 (by decide) (by decide)
  have e1 : f_X4_withKind_98 x 4093 (nI k) b3 (nI 3) = some b3 := if_pos (show (3 : Int32) ≤ nI 3 by decide)
  have e2 : f_X5_mixKind_68 m 4081 b3 (nI k) (nI 15) = some b3 := if_pos (show (15 : Int32) ≤ nI 15 by decide)
  exact ⟨b3, p1.trans (q1.trans (s1.trans e1)), p2.trans (q2.trans (s2.trans e2))⟩
theorem g_amends {x m : XS} (h : RI x m) (h0 : m 0 6 = 0) {k s : Nat} (hk : k < 4) (hs : s ≤ 6) (es : m 1 (9 + 28 * k) = nI s) : ∀ q n n' j acc, j + q = s → q < n → 5 * q < n' → ∃ acc', f_X4_withKind_39 x n (nI k) acc (nI j) = some acc' ∧ f_X5_mixKind_27 m n' acc (nI k) (nI (5 * j)) = some acc' := by
  have h5 : (5 : Int32) * nI s = nI (5 * s) := by show nI 5 * nI s = _; rw [pk_mul]
  intro q
  induction q with
  | zero =>
    intro n n' j acc hq hn hn'
    cases n with
    | zero => omega
    | succ n =>
      cases n' with
      | zero => omega
      | succ n' =>
        have e : j = s := by omega
        subst e
        obtain ⟨acc', a1, a2⟩ := g_prec h h0 hk acc
        refine ⟨acc', ?_, ?_⟩
        · show (f_X1_sizeOf 1 x (nI k)).bind _ = _
          rw [f_size h.1 hk es, sb, if_pos (Int32.le_refl _), a1]
        · show (f_X5_at (nI k)).bind _ = _
          rw [f_at, sb, ag' (e := nI (6 + 28 * k) + 3) (n := 442) (9 + 28 * k) (nI_p _ 3 (by omega)) (by omega), sb, es, h5, if_pos (Int32.le_refl _), a2]
  | succ q ih =>
    intro n n' j acc hq hn hn'
    cases n with
    | zero => omega
    | succ n =>
      have hj : j < s := by omega
      obtain ⟨acc1, a1, a2⟩ := zipL (F := fun n' acc i => f_X4_withKind_58 x (f_X4_withKind_39 x n) n' (nI k) acc (nI j) i) (G := fun n acc i => f_X5_mixKind_27 m n acc (nI k) i) (FE := fun acc => f_X4_withKind_39 x n (nI k) acc (nI (j + 1))) (K := 5) (o := 5 * j) (fun n' acc => by
        show (if (4 : Int32) < nI 5 then _ else _) = _
        rw [if_pos (show (4 : Int32) < nI 5 by decide), sb, nI_1]) (fun i hi => by
        obtain ⟨r, r1, r2⟩ := d_amends h h0 hk hs es hj (w := i) (by omega)
        obtain ⟨i1, i2⟩ := ix5 (l := 5 * j + i) (j := j) (w := i) hi rfl (by omega)
        refine ⟨r, fun n acc => ?_, fun n acc => ?_⟩
        · show (if (4 : Int32) < nI i then _ else _) = _
          rw [if_neg (show ¬ (4 : Int32) < nI i from nI_nlt (b := i) (a := 4) (by omega) (by decide)), r1, sb, sb, sb, nI_1]
        · show (f_X5_at (nI k)).bind _ = _
          rw [f_at, sb, ag' (e := nI (6 + 28 * k) + 3) (n := 442) (9 + 28 * k) (nI_p _ 3 (by omega)) (by omega), sb, es, h5, if_neg (nI_ge (by omega) (by omega)), i2, i1, r2, sb, mx, sb, sb, nI_1]
          rfl) 5 4096 n' 0 acc (by decide) (by decide) (by omega)
      obtain ⟨acc', b1, b2⟩ := ih n (n' - 5) (j + 1) acc1 (by omega) (by omega) (by omega)
      refine ⟨acc', ?_, a2.trans b2⟩
      show (f_X1_sizeOf 1 x (nI k)).bind _ = _
      rw [f_size h.1 hk es, sb, if_neg (nI_ge hj (by omega))]
      exact a1.trans b1
theorem g_kind {x m : XS} (h : RI x m) (h0 : m 0 6 = 0) {k : Nat} (hk : k < 4) (acc : Int64) : ∃ acc', f_X4_withKind x acc (nI k) = some acc' ∧ f_X5_mixKind m acc (nI k) = some acc' := by
  obtain ⟨s, hs, es⟩ := h.2.1.size hk
  obtain ⟨acc1, a1, a2⟩ := zipL (F := fun n acc i => f_X4_withKind_6 x n (nI k) acc i) (G := fun n acc i => f_X5_mixKind_2 m n acc (nI k) i) (FE := fun acc => f_X4_withKind_39 x 4096 (nI k) acc 0) (K := 8) (o := 0) (fun n acc => by
    show (if (7 : Int32) < nI 8 then _ else _) = _
    rw [if_pos (show (7 : Int32) < nI 8 by decide)]) (fun i hi => by
    obtain ⟨r, r1, r2⟩ := d_kind h h0 hk (w := i) (by omega)
    refine ⟨r, fun n acc => ?_, fun n acc => ?_⟩
    · show (if (7 : Int32) < nI i then _ else _) = _
      rw [if_neg (show ¬ (7 : Int32) < nI i from nI_nlt (b := i) (a := 7) (by omega) (by decide)), r1, sb, sb, sb, nI_1]
    · rw [Nat.zero_add, Nat.zero_add]
      show (if (8 : Int32) ≤ nI i then _ else _) = _
      rw [if_neg (show ¬ (8 : Int32) ≤ nI i from nI_ge (a := i) (b := 8) hi (by decide)), r2, sb, mx, sb, sb, nI_1]) 8 4096 4096 0 acc (by decide) (by decide) (by decide)
  obtain ⟨acc', b1, b2⟩ := g_amends h h0 hk hs es s 4096 4096 0 acc1 (by omega) (by omega) (by omega)
  have e2 : f_X5_mixKind_2 m 4088 acc1 (nI k) (nI 8) = f_X5_mixKind_27 m 4096 acc1 (nI k) 0 := if_pos (show (8 : Int32) ≤ nI 8 by decide)
  exact ⟨acc', a1.trans b1, a2.trans (e2.trans b2)⟩
