/-! ===== the pure part: both sides as one map of numbers ===== -/
abbrev ZS : Type := Nat → Int32
theorem nI_eqO (n : Nat) : (OfNat.ofNat n : Int32) = nI n := rfl
theorem ag {n : Nat} {f : Nat → Int32} {i : Nat} (h : i < n) (hn : n < 2 ^ 31 := by decide) : aget n f (nI i) = some (f i) := by
  unfold aget
  rw [if_neg (nI_in h hn), nI_clamp (by omega)]
theorem asn {x : XS} {k n i : Nat} {v : Int32} (h : i < n) (hn : n < 2 ^ 31 := by decide) : aset x k n (nI i) v = some (ux x k i v) := by
  unfold aset
  rw [if_neg (nI_in h hn), nI_clamp (by omega)]
theorem ag' {n : Nat} {f : Nat → Int32} {e : Int32} (i : Nat) (he : e = nI i) (h : i < n) (hn : n < 2 ^ 31 := by decide) : aget n f e = some (f i) := by rw [he]; exact ag h hn
theorem asn' {x : XS} {k n : Nat} {e v : Int32} (i : Nat) (he : e = nI i) (h : i < n) (hn : n < 2 ^ 31 := by decide) : aset x k n e v = some (ux x k i v) := by rw [he]; exact asn h hn
theorem sb {α β : Type} (a : α) (f : α → Option β) : (some a).bind f = f a := rfl
theorem lpI {σ β : Type} (L : Nat → σ → Int32 → Option β) (I : Nat → σ → Prop) (N : Nat) (hs : ∀ n s i, i < N → I i s → ∃ s', I (i + 1) s' ∧ L (n + 1) s (nI i) = L n s' (nI (i + 1))) :
    ∀ q n i s, i + q = N → q < n → I i s → ∃ n' s', I N s' ∧ L n s (nI i) = L (n' + 1) s' (nI N) := by
  intro q
  induction q with
  | zero =>
    intro n i s hq hn hI
    cases n with
    | zero => omega
    | succ n => exact ⟨n, s, by rw [← hq]; exact hI, by rw [← hq]; rfl⟩
  | succ q ih =>
    intro n i s hq hn hI
    cases n with
    | zero => omega
    | succ n =>
      obtain ⟨s', h1, h2⟩ := hs n s i (by omega) hI
      obtain ⟨n', s'', h3, h4⟩ := ih n (i + 1) s' (by omega) (by omega) h1
      exact ⟨n', s'', h3, h2.trans h4⟩
theorem ux_at {x : XS} {k j : Nat} {v : Int32} : ux x k j v k j = v := if_pos ⟨rfl, rfl⟩
theorem ux_j {x : XS} {k j i : Nat} {v : Int32} (h : i ≠ j) : ux x k j v k i = x k i := if_neg (fun e => h e.2)
theorem ux_k {x : XS} {k j q i : Nat} {v : Int32} (h : q ≠ k) : ux x k j v q i = x q i := if_neg (fun e => h e.1)
/-! ===== where a number of the model lies in a block ===== -/
def zx (off slot : Nat) : Option Nat :=
  if off = 0 then (if slot = 7 then some 1 else none)
  else if off = 7 then (if slot = 0 then some 0 else none)
  else if off = 17 then (if slot = 0 then some 5 else none)
  else if off = 22 then (if slot < 3 then some (2 + slot) else none)
  else if off = 23 then (if slot < 4 then some (6 + 28 * slot) else none)
  else if off = 24 then (if slot < 4 then some (7 + 28 * slot) else none)
  else if off = 25 then (if slot < 4 then some (8 + 28 * slot) else none)
  else if off = 2 then (if slot < 4 then some (9 + 28 * slot) else none)
  else if off = 3 ∨ off = 4 ∨ off = 5 ∨ off = 6 then (if slot < 24 then some (10 + 28 * (slot / 6) + 4 * (slot % 6) + (off - 3)) else none)
  else if off = 21 then (if slot < 12 then some (118 + slot) else none)
  else if off = 18 ∨ off = 19 ∨ off = 20 then (if slot < 24 then some (130 + 3 * slot + (off - 18)) else none)
  else if 8 ≤ off ∧ off ≤ 16 then (if slot < 24 then some (202 + 10 * slot + (off - 8)) else none)
  else none
def iz (i : Nat) : Nat × Nat :=
  if i = 1 then (0, 7) else if i = 0 then (7, 0) else if i = 5 then (17, 0) else if i < 5 then (22, i - 2)
  else if i < 118 then
    (if (i - 6) % 28 = 0 then (23, (i - 6) / 28) else if (i - 6) % 28 = 1 then (24, (i - 6) / 28) else if (i - 6) % 28 = 2 then (25, (i - 6) / 28) else if (i - 6) % 28 = 3 then (2, (i - 6) / 28)
     else (3 + ((i - 6) % 28 - 4) % 4, 6 * ((i - 6) / 28) + ((i - 6) % 28 - 4) / 4))
  else if i < 130 then (21, i - 118)
  else if i < 202 then (18 + (i - 130) % 3, (i - 130) / 3)
  else (8 + (i - 202) % 10, (i - 202) / 10)
theorem zx_fin : ∀ off, off < 26 → ∀ slot, slot < 24 → ∀ i, zx off slot = some i → iz i = (off, slot) ∧ i < 442 ∧ ¬ (202 ≤ i ∧ (i - 202) % 10 = 9) := by
  have h : ∀ off, off < 26 → ∀ slot, slot < 24 → (match zx off slot with | none => true | some i => decide (iz i = (off, slot) ∧ i < 442 ∧ ¬ (202 ≤ i ∧ (i - 202) % 10 = 9))) = true := by decide +kernel
  intro off ho slot hs i hi
  have h1 := h off ho slot hs
  rw [hi] at h1
  exact of_decide_eq_true h1
theorem zx_lt {off slot i : Nat} (h : zx off slot = some i) : off < 26 ∧ slot < 24 := by
  unfold zx at h
  refine ⟨Classical.byContradiction fun q => ?_, Classical.byContradiction fun q => ?_⟩
  · rw [if_neg (by omega), if_neg (by omega), if_neg (by omega), if_neg (by omega), if_neg (by omega), if_neg (by omega), if_neg (by omega), if_neg (by omega), if_neg (by omega), if_neg (by omega), if_neg (by omega), if_neg (by omega)] at h
    cases h
  · simp only [show ¬ slot = 7 by omega, show ¬ slot = 0 by omega, show ¬ slot < 3 by omega, show ¬ slot < 4 by omega, show ¬ slot < 24 by omega, show ¬ slot < 12 by omega, if_false, ite_self] at h
    cases h
theorem zx_iz {off slot i : Nat} (h : zx off slot = some i) : iz i = (off, slot) ∧ i < 442 ∧ ¬ (202 ≤ i ∧ (i - 202) % 10 = 9) := zx_fin off (zx_lt h).1 slot (zx_lt h).2 i h
def zS26 : List (Nat × Nat × Nat) := [(0, 7, 8), (25, 0, 4), (24, 0, 4), (23, 0, 4), (22, 0, 3), (21, 0, 12), (20, 0, 24), (19, 0, 24), (18, 0, 24), (17, 0, 1), (16, 0, 24), (15, 0, 24), (14, 0, 24), (13, 0, 24), (12, 0, 24), (11, 0, 24), (10, 0, 24), (9, 0, 24), (8, 0, 24), (7, 0, 1), (6, 0, 24), (5, 0, 24), (4, 0, 24), (3, 0, 24), (2, 0, 4)]
theorem zx_any {off slot i : Nat} (h : zx off slot = some i) : ∃ t ∈ zS26, t.1 = off ∧ t.2.1 ≤ slot ∧ slot < t.2.2 := by
  have k : ∀ off, off < 26 → ∀ slot, slot < 24 → (match zx off slot with | none => true | some _ => zS26.any (fun t => decide (t.1 = off ∧ t.2.1 ≤ slot ∧ slot < t.2.2))) = true := by decide +kernel
  have k1 := k off (zx_lt h).1 slot (zx_lt h).2
  rw [h] at k1
  obtain ⟨t, ht, h9⟩ := List.any_eq_true.mp k1
  exact ⟨t, ht, of_decide_eq_true h9⟩
def Sim (b : Nat) (x : XS) (z : ZS) : Prop := ∀ off slot i, zx off slot = some i → x (b + off) slot = z i
theorem Sim.congr {b : Nat} {x : XS} {z z1 : ZS} (h : Sim b x z) (hz : ∀ i, i < 442 → z1 i = z i) : Sim b x z1 := fun off slot i hi => by rw [hz i (zx_iz hi).2.1]; exact h off slot i hi
theorem Sim.frame {b : Nat} {x x1 : XS} {z : ZS} (h : Sim b x z) (hx : ∀ j, j < 26 → x1 (b + j) = x (b + j)) : Sim b x1 z := fun off slot i hi => by rw [hx off (zx_lt hi).1]; exact h off slot i hi
theorem Sim.move {b b1 : Nat} {x x1 : XS} {z : ZS} (h : Sim b x z) (hx : ∀ off slot i, zx off slot = some i → x1 (b1 + off) slot = x (b + off) slot) : Sim b1 x1 z := fun off slot i hi => by rw [hx off slot i hi]; exact h off slot i hi
theorem Sim.put {b : Nat} {x : XS} {z : ZS} (h : Sim b x z) {off slot i : Nat} (hi : zx off slot = some i) (v : Int32) : Sim b (ux x (b + off) slot v) (upd z i v) := by
  intro o s j hj
  by_cases e : i = j
  · subst e
    have h1 := (zx_iz hi).1
    rw [(zx_iz hj).1] at h1
    cases h1
    rw [ux_at, pk_us]
  · rw [pk_un (fun q => e q.symm), ← h o s j hj]
    refine if_neg (fun q => e ?_)
    have e1 : o = off := by omega
    have e2 := q.2
    subst e1
    subst e2
    exact Option.some.inj (hi.symm.trans hj)
theorem Sim.how {b : Nat} {x : XS} {z : ZS} (h : Sim b x z) {i : Nat} (hi : 202 ≤ i ∧ (i - 202) % 10 = 9) (v : Int32) : Sim b x (upd z i v) := by
  intro o s j hj
  rw [pk_un (fun q => (zx_iz hj).2.2 (by rw [q]; exact hi))]
  exact h o s j hj
theorem Sim.out {b : Nat} {x : XS} {z : ZS} (h : Sim b x z) {q j : Nat} {v : Int32} (hq : q < b ∨ b + 26 ≤ q) : Sim b (ux x q j v) z := h.frame (fun j hj => ux_ne (by omega))
theorem sm_month {b : Nat} {x : XS} {z : ZS} (h : Sim b x z) : x b 7 = z 1 := h 0 7 1 rfl
theorem sm_N {b : Nat} {x : XS} {z : ZS} (h : Sim b x z) : x (b + 7) 0 = z 0 := h 7 0 0 rfl
theorem sm_P {b : Nat} {x : XS} {z : ZS} (h : Sim b x z) : x (b + 17) 0 = z 5 := h 17 0 5 rfl
theorem sm_set {b : Nat} {x : XS} {z : ZS} (h : Sim b x z) {j : Nat} (hj : j < 3) : x (b + 22) j = z (2 + j) := h 22 j _ (if_pos hj)
theorem sm_base {b : Nat} {x : XS} {z : ZS} (h : Sim b x z) {k : Nat} (hk : k < 4) : x (b + 23) k = z (6 + 28 * k) := h 23 k _ (if_pos hk)
theorem sm_bud {b : Nat} {x : XS} {z : ZS} (h : Sim b x z) {k : Nat} (hk : k < 4) : x (b + 24) k = z (7 + 28 * k) := h 24 k _ (if_pos hk)
theorem sm_spent {b : Nat} {x : XS} {z : ZS} (h : Sim b x z) {k : Nat} (hk : k < 4) : x (b + 25) k = z (8 + 28 * k) := h 25 k _ (if_pos hk)
theorem sm_size {b : Nat} {x : XS} {z : ZS} (h : Sim b x z) {k : Nat} (hk : k < 4) : x (b + 2) k = z (9 + 28 * k) := h 2 k _ (if_pos hk)
theorem sm_lat {b : Nat} {x : XS} {z : ZS} (h : Sim b x z) {i : Nat} (hi : i < 12) : x (b + 21) i = z (118 + i) := h 21 i _ (if_pos hi)
theorem sm_pr {b : Nat} {x : XS} {z : ZS} (h : Sim b x z) {j p : Nat} (hj : j < 3) (hp : p < 24) : x (b + (18 + j)) p = z (130 + 3 * p + j) := by
  refine h (18 + j) p _ ?_
  unfold zx
  rw [if_neg (by omega), if_neg (by omega), if_neg (by omega), if_neg (by omega), if_neg (by omega), if_neg (by omega), if_neg (by omega), if_neg (by omega), if_neg (by omega), if_neg (by omega), if_pos (by omega), if_pos hp, Nat.add_sub_cancel_left]
theorem sm_co {b : Nat} {x : XS} {z : ZS} (h : Sim b x z) {j c : Nat} (hj : j < 9) (hc : c < 24) : x (b + (8 + j)) c = z (202 + 10 * c + j) := by
  refine h (8 + j) c _ ?_
  unfold zx
  rw [if_neg (by omega), if_neg (by omega), if_neg (by omega), if_neg (by omega), if_neg (by omega), if_neg (by omega), if_neg (by omega), if_neg (by omega), if_neg (by omega), if_neg (by omega), if_neg (by omega), if_pos (by omega), if_pos hc, Nat.add_sub_cancel_left]
theorem sm_am {b : Nat} {x : XS} {z : ZS} (h : Sim b x z) {j k a : Nat} (hj : j < 4) (hk : k < 4) (ha : a < 6) : x (b + (3 + j)) (6 * k + a) = z (10 + 28 * k + 4 * a + j) := by
  refine h (3 + j) (6 * k + a) _ ?_
  unfold zx
  rw [if_neg (by omega), if_neg (by omega), if_neg (by omega), if_neg (by omega), if_neg (by omega), if_neg (by omega), if_neg (by omega), if_neg (by omega), if_pos (by omega), if_pos (by omega), Nat.add_sub_cancel_left, show (6 * k + a) / 6 = k by omega, show (6 * k + a) % 6 = a by omega]
theorem zx_co {j c : Nat} (hj : j < 9) (hc : c < 24) : zx (8 + j) c = some (202 + 10 * c + j) := by
  unfold zx
  rw [if_neg (by omega), if_neg (by omega), if_neg (by omega), if_neg (by omega), if_neg (by omega), if_neg (by omega), if_neg (by omega), if_neg (by omega), if_neg (by omega), if_neg (by omega), if_neg (by omega), if_pos (by omega), if_pos hc, Nat.add_sub_cancel_left]
theorem zx_pr {j p : Nat} (hj : j < 3) (hp : p < 24) : zx (18 + j) p = some (130 + 3 * p + j) := by
  unfold zx
  rw [if_neg (by omega), if_neg (by omega), if_neg (by omega), if_neg (by omega), if_neg (by omega), if_neg (by omega), if_neg (by omega), if_neg (by omega), if_neg (by omega), if_neg (by omega), if_pos (by omega), if_pos hp, Nat.add_sub_cancel_left]
theorem zx_am {j k a : Nat} (hj : j < 4) (hk : k < 4) (ha : a < 6) : zx (3 + j) (6 * k + a) = some (10 + 28 * k + 4 * a + j) := by
  unfold zx
  rw [if_neg (by omega), if_neg (by omega), if_neg (by omega), if_neg (by omega), if_neg (by omega), if_neg (by omega), if_neg (by omega), if_neg (by omega), if_pos (by omega), if_pos (by omega), Nat.add_sub_cancel_left, show (6 * k + a) / 6 = k by omega, show (6 * k + a) % 6 = a by omega]
/-! ===== copying a block ===== -/
theorem cpA_k {x : XS} {k1 k2 N q : Nat} (h : q ≠ k2) : cpA x k1 k2 N q = x q := if_neg h
theorem cpA_in {x : XS} {k1 k2 N j : Nat} (h : j < N) : cpA x k1 k2 N k2 j = x k1 j := by
  unfold cpA
  rw [if_pos rfl, pk_cpy_in (Nat.zero_le _) (by omega), Nat.zero_add, Nat.sub_zero]
def CP (b b2 : Nat) (x x1 : XS) (S : List (Nat × Nat × Nat)) : Prop := (∀ q, q < b ∨ b + 26 ≤ q → x1 q = x q) ∧ ∀ t ∈ S, ∀ j, t.2.1 ≤ j → j < t.2.2 → x1 (b + t.1) j = x (b2 + t.1) j
theorem CP.nil {b b2 : Nat} {x : XS} : CP b b2 x x [] := ⟨fun _ _ => rfl, fun _ h => nomatch h⟩
theorem CP.cp {b b2 : Nat} {x x1 : XS} {S : List (Nat × Nat × Nat)} (h : CP b b2 x x1 S) (hd : b + 26 ≤ b2 ∨ b2 + 26 ≤ b) (o N : Nat) (ho : o < 26) (hn : ∀ t ∈ S, t.1 ≠ o) : CP b b2 x (cpA x1 (b2 + o) (b + o) N) ((o, 0, N) :: S) := by
  refine ⟨fun q hq => by rw [cpA_k (by omega)]; exact h.1 q hq, fun t ht j h1 h2 => ?_⟩
  rcases List.mem_cons.mp ht with rfl | ht
  · rw [cpA_in h2]
    exact congrFun (h.1 _ (by show b2 + o < b ∨ b + 26 ≤ b2 + o; omega)) j
  · rw [cpA_k (by have := hn t ht; omega)]
    exact h.2 t ht j h1 h2
theorem CP.ux {b b2 : Nat} {x x1 : XS} {S : List (Nat × Nat × Nat)} (h : CP b b2 x x1 S) (hd : b + 26 ≤ b2 ∨ b2 + 26 ≤ b) (o k : Nat) (ho : o < 26) (hn : ∀ t ∈ S, t.1 ≠ o) : CP b b2 x (ux x1 (b + o) k (x1 (b2 + o) k)) ((o, k, k + 1) :: S) := by
  refine ⟨fun q hq => by rw [ux_ne (by omega)]; exact h.1 q hq, fun t ht j h1 h2 => ?_⟩
  rcases List.mem_cons.mp ht with rfl | ht
  · have e : j = k := Nat.le_antisymm (Nat.le_of_lt_succ h2) h1
    subst e
    rw [ux_at]
    exact congrFun (h.1 _ (by show b2 + o < b ∨ b + 26 ≤ b2 + o; omega)) j
  · rw [ux_ne (by have := hn t ht; omega)]
    exact h.2 t ht j h1 h2
theorem copy_all {b b2 : Nat} (x : XS) (hd : b + 26 ≤ b2 ∨ b2 + 26 ≤ b) : ∃ x1, f_X3_copyFrom b b2 x = some x1 ∧ CP b b2 x x1 zS26 := by
  have h := CP.nil (b := b) (b2 := b2) (x := x)
  have h := h.cp hd 2 4 (by decide) (by decide)
  have h := h.cp hd 3 24 (by decide) (by decide)
  have h := h.cp hd 4 24 (by decide) (by decide)
  have h := h.cp hd 5 24 (by decide) (by decide)
  have h := h.cp hd 6 24 (by decide) (by decide)
  have h := h.ux hd 7 0 (by decide) (by decide)
  have h := h.cp hd 8 24 (by decide) (by decide)
  have h := h.cp hd 9 24 (by decide) (by decide)
  have h := h.cp hd 10 24 (by decide) (by decide)
  have h := h.cp hd 11 24 (by decide) (by decide)
  have h := h.cp hd 12 24 (by decide) (by decide)
  have h := h.cp hd 13 24 (by decide) (by decide)
  have h := h.cp hd 14 24 (by decide) (by decide)
  have h := h.cp hd 15 24 (by decide) (by decide)
  have h := h.cp hd 16 24 (by decide) (by decide)
  have h := h.ux hd 17 0 (by decide) (by decide)
  have h := h.cp hd 18 24 (by decide) (by decide)
  have h := h.cp hd 19 24 (by decide) (by decide)
  have h := h.cp hd 20 24 (by decide) (by decide)
  have h := h.cp hd 21 12 (by decide) (by decide)
  have h := h.cp hd 22 3 (by decide) (by decide)
  have h := h.cp hd 23 4 (by decide) (by decide)
  have h := h.cp hd 24 4 (by decide) (by decide)
  have h := h.cp hd 25 4 (by decide) (by decide)
  have h := h.ux hd 0 7 (by decide) (by decide)
  exact ⟨_, rfl, h⟩
theorem CP.sim {b b2 : Nat} {x x1 : XS} {z : ZS} (h : CP b b2 x x1 zS26) (hs : Sim b2 x z) : Sim b x1 z := by
  intro off slot i hi
  obtain ⟨t, ht, h1, h2, h3⟩ := zx_any hi
  rw [← hs off slot i hi, ← h1]
  exact h.2 t ht slot h2 h3
/-! ===== saving and undoing ===== -/
theorem m_save_top : ∀ q n i (m : XS) (c : Nat), c ≤ 5 → i + q = 442 → q < n → m 0 3 = nI c → ∃ m1, f_X5_save_52 n m (nI i) = some m1 ∧ m1 0 3 = nI (c + 1) ∧ (∀ j, j ≠ 3 → m1 0 j = m 0 j) ∧ (∀ k, k ≠ 0 → k ≠ 2 → m1 k = m k) ∧ (∀ j, j < 442 * c + i → m1 2 j = m 2 j) ∧ ∀ j, i ≤ j → j < 442 → m1 2 (442 * c + j) = m 1 j := by
  intro q
  induction q with
  | zero =>
    intro n i m c hc hq hn h3
    cases n with
    | zero => omega
    | succ n =>
      have e : i = 442 := by omega
      subst e
      refine ⟨ux m 0 3 (m 0 3 + 1), ?_, ?_, fun j hj => ux_j hj, fun k h1 _ => ux_ne h1, fun j _ => ux_k (by decide), fun j h1 h2 => by omega⟩
      · show (if (442 : Int32) ≤ nI 442 then _ else _) = _
        rw [if_pos (by decide)]
        rfl
      · rw [ux_at, h3, nI_1]
  | succ q ih =>
    intro n i m c hc hq hn h3
    cases n with
    | zero => omega
    | succ n =>
      obtain ⟨m1, e1, e2, e3, e4, e5, e6⟩ := ih n (i + 1) (ux m 2 (442 * c + i) (m 1 i)) c hc (by omega) (by omega) (by rw [ux_k (by decide)]; exact h3)
      refine ⟨m1, ?_, e2, fun j hj => by rw [e3 j hj, ux_k (by decide)], fun k h1 h2 => by rw [e4 k h1 h2, ux_ne h2], fun j hj => by rw [e5 j (by omega), ux_j (by omega)], fun j h1 h2 => ?_⟩
      · show (if (442 : Int32) ≤ nI i then _ else _) = _
        rw [if_neg (show ¬ (442 : Int32) ≤ nI i from nI_ge (a := i) (b := 442) (by omega) (by omega)), ag (by omega), sb, asn' (442 * c + i) (by rw [h3]; show nI 442 * nI c + nI i = _; rw [pk_mul, nI_add]) (by omega), sb, sb, nI_1]
        exact e1
      · by_cases hj : j = i
        · subst hj
          rw [e5 _ (by omega), ux_at]
        · rw [e6 j (by omega) h2, ux_k (by decide)]
theorem m_save_shift : ∀ q n i (m : XS), i + q = 2210 → q < n → ∃ m1, f_X5_save_11 n m (nI i) = f_X5_save_50 m1 ∧ m1 0 3 = m 0 3 - 1 ∧ (∀ j, j ≠ 3 → m1 0 j = m 0 j) ∧ (∀ k, k ≠ 0 → k ≠ 2 → m1 k = m k) ∧ (∀ j, j < i → m1 2 j = m 2 j) ∧ ∀ j, i ≤ j → j < 2210 → m1 2 j = m 2 (j + 442) := by
  intro q
  induction q with
  | zero =>
    intro n i m hq hn
    cases n with
    | zero => omega
    | succ n =>
      have e : i = 2210 := by omega
      subst e
      refine ⟨ux m 0 3 (m 0 3 - 1), ?_, ux_at, fun j hj => ux_j hj, fun k h1 _ => ux_ne h1, fun j _ => ux_k (by decide), fun j h1 h2 => by omega⟩
      show (if (2210 : Int32) ≤ nI 2210 then _ else _) = _
      rw [if_pos (by decide)]
      rfl
  | succ q ih =>
    intro n i m hq hn
    cases n with
    | zero => omega
    | succ n =>
      obtain ⟨m1, e1, e2, e3, e4, e5, e6⟩ := ih n (i + 1) (ux m 2 i (m 2 (i + 442))) (by omega) (by omega)
      refine ⟨m1, ?_, by rw [e2, ux_k (by decide)], fun j hj => by rw [e3 j hj, ux_k (by decide)], fun k h1 h2 => by rw [e4 k h1 h2, ux_ne h2], fun j hj => by rw [e5 j (by omega), ux_j (by omega)], fun j h1 h2 => ?_⟩
      · show (if (2210 : Int32) ≤ nI i then _ else _) = _
        rw [if_neg (show ¬ (2210 : Int32) ≤ nI i from nI_ge (a := i) (b := 2210) (by omega) (by omega)), ag' (e := nI i + 442) (n := 2652) (i + 442) (nI_add i 442) (by omega), sb, asn (by omega), sb, sb, nI_1]
        exact e1
      · by_cases hj : j = i
        · subst hj
          rw [e5 _ (by omega), ux_at]
        · rw [e6 j (by omega) h2, ux_j (by omega)]
theorem m_save (m : XS) (c : Nat) (hc : c ≤ 6) (h3 : m 0 3 = nI c) : ∃ m1, f_X5_save m = some m1 ∧ m1 0 3 = nI (min 6 (c + 1)) ∧ (∀ j, j ≠ 3 → m1 0 j = m 0 j) ∧ (∀ k, k ≠ 0 → k ≠ 2 → m1 k = m k) ∧
    (∀ q, q < min 5 c → ∀ i, i < 442 → m1 2 (442 * q + i) = m 2 (442 * (if c = 6 then q + 1 else q) + i)) ∧ ∀ i, i < 442 → m1 2 (442 * min 5 c + i) = m 1 i := by
  unfold f_X5_save
  by_cases h6 : c = 6
  · subst h6
    rw [h3, if_pos (show nI 6 = (6 : Int32) from rfl)]
    obtain ⟨m1, e1, e2, e3, e4, e5, e6⟩ := m_save_shift 2210 4096 0 m (by omega) (by omega)
    obtain ⟨m2, g1, g2, g3, g4, g5, g6⟩ := m_save_top 442 4096 0 m1 5 (by omega) (by omega) (by omega) (by rw [e2, h3]; rfl)
    refine ⟨m2, e1.trans g1, g2, fun j hj => (g3 j hj).trans (e3 j hj), fun k h1 h2 => (g4 k h1 h2).trans (e4 k h1 h2), fun q hq i hi => ?_, fun i hi => ?_⟩
    · have hq : q < 5 := hq
      rw [g5 _ (by omega), e6 _ (by omega) (by omega), if_pos rfl, show 442 * (q + 1) + i = 442 * q + i + 442 by omega]
    · rw [show min 5 6 = 5 from rfl, g6 i (Nat.zero_le _) hi, e4 1 (by decide) (by decide)]
  · have hc5 : c ≤ 5 := by omega
    rw [h3, if_neg (fun e => h6 ((nI_eq (by omega) (by decide)).mp (e.trans rfl)))]
    obtain ⟨m2, g1, g2, g3, g4, g5, g6⟩ := m_save_top 442 4096 0 m c hc5 (by omega) (by omega) h3
    refine ⟨m2, g1, by rw [g2, show min 6 (c + 1) = c + 1 by omega], g3, g4, fun q hq i hi => ?_, fun i hi => ?_⟩
    · have hq : q < c := by omega
      rw [if_neg h6, g5 _ (by have := Nat.mul_le_mul_left 442 (show q + 1 ≤ c from hq); omega)]
    · rw [show min 5 c = c by omega, g6 i (Nat.zero_le _) hi]
theorem f_sav {s : Nat} (hs : s < 6) : f_X4_savedAt (nI s) = some (55 + 26 * s) := by
  rcases (show s = 0 ∨ s = 1 ∨ s = 2 ∨ s = 3 ∨ s = 4 ∨ s = 5 by omega) with rfl | rfl | rfl | rfl | rfl | rfl <;> decide +kernel
theorem x_save (x : XS) (c s : Nat) (hc : c ≤ 6) (hs : s < 6) (h3 : x 0 3 = nI c) (h4 : x 0 4 = nI s) : ∃ x1, f_X4_save x = some x1 ∧ x1 0 3 = nI (min 6 (c + 1)) ∧ x1 0 4 = nI ((s + 1) % 6) ∧ (∀ j, j ≠ 3 → j ≠ 4 → x1 0 j = x 0 j) ∧ (∀ q, q ≠ 0 → (q < 55 + 26 * s ∨ 55 + 26 * s + 26 ≤ q) → x1 q = x q) ∧ ∀ z, Sim 1 x z → Sim (55 + 26 * s) x1 z := by
  obtain ⟨y, e1, hC⟩ := copy_all (b := 55 + 26 * s) (b2 := 1) x (by omega)
  unfold f_X4_save
  rw [h4, f_sav hs, sb, e1, sb]
  have y0 : y 0 = x 0 := hC.1 0 (by omega)
  have k4 : (y 0 4 + 1) - (y 0 4 + 1) / 6 * 6 = nI ((s + 1) % 6) := by
    rw [y0, h4, nI_1]
    exact pk_rem (d := 6) (by omega) (by decide) (by decide)
  unfold f_X4_save_21
  rw [sb, k4]
  have k3 : ux y 0 4 (nI ((s + 1) % 6)) 0 3 = nI c := by rw [ux_j (by decide), y0, h3]
  rw [k3]
  by_cases h6 : c = 6
  · subst h6
    rw [if_pos (show (6 : Int32) ≤ nI 6 by decide)]
    refine ⟨_, rfl, k3, ux_at, fun j h1 h2 => by rw [ux_j h2, y0], fun q h1 h2 => by rw [ux_ne h1]; exact hC.1 q (by omega), fun z hz => ?_⟩
    exact (hC.sim hz).frame (fun j _ => ux_ne (by omega))
  · rw [if_neg (show ¬ (6 : Int32) ≤ nI c from nI_ge (a := c) (b := 6) (by omega) (by decide)), sb]
    refine ⟨_, rfl, ?_, ?_, fun j h1 h2 => by rw [ux_j h1, ux_j h2, y0], fun q h1 h2 => by rw [ux_ne h1, ux_ne h1]; exact hC.1 q (by omega), fun z hz => ?_⟩
    · rw [ux_at, nI_1, show min 6 (c + 1) = c + 1 by omega]
    · rw [ux_j (by decide), ux_at]
    · exact (hC.sim hz).frame (fun j _ => by rw [ux_ne (by omega), ux_ne (by omega)])
/-! ===== the relation ===== -/
def slotAt (c s q : Nat) : Nat := 55 + 26 * ((s + 6 - c + q) % 6)
def zrow (m : XS) (q : Nat) : ZS := fun i => m 2 (442 * q + i)
def Sv (J : ZS → Prop) (x m : XS) : Prop := ∃ c s : Nat, c ≤ 6 ∧ s < 6 ∧ x 0 3 = nI c ∧ x 0 4 = nI s ∧ m 0 3 = nI c ∧ ∀ q, q < c → Sim (slotAt c s q) x (zrow m q) ∧ J (zrow m q)
def Bf (x m : XS) : Prop := ∃ n : Nat, n ≤ 60 ∧ x 0 6 = nI n ∧ m 0 5 = nI n ∧ ∀ i, i < n → x 54 i = m 4 i ∧ ∃ v : Nat, 33 ≤ v ∧ v ≤ 126 ∧ m 4 i = nI v
def RR (J : ZS → Prop) (x m : XS) : Prop := Sim 1 x (m 1) ∧ J (m 1) ∧ Sv J x m ∧ Bf x m
theorem Bf.of {x m x1 m1 : XS} (h : Bf x m) (h1 : x1 0 6 = x 0 6) (h2 : m1 0 5 = m 0 5) (h3 : x1 54 = x 54) (h4 : m1 4 = m 4) : Bf x1 m1 := by
  obtain ⟨n, a1, a2, a3, a4⟩ := h
  exact ⟨n, a1, by rw [h1, a2], by rw [h2, a3], fun i hi => by rw [h3, h4]; exact a4 i hi⟩
theorem Sv.of {J : ZS → Prop} {x m x1 m1 : XS} (h : Sv J x m) (h1 : ∀ j, j = 3 ∨ j = 4 → x1 0 j = x 0 j) (h2 : m1 0 3 = m 0 3) (h3 : ∀ q, 55 ≤ q → x1 q = x q) (h4 : m1 2 = m 2) : Sv J x1 m1 := by
  obtain ⟨c, s, a1, a2, a3, a4, a5, a6⟩ := h
  refine ⟨c, s, a1, a2, by rw [h1 3 (Or.inl rfl), a3], by rw [h1 4 (Or.inr rfl), a4], by rw [h2, a5], fun q hq => ?_⟩
  have e : zrow m1 q = zrow m q := by funext i; unfold zrow; rw [h4]
  rw [e]
  exact ⟨(a6 q hq).1.frame (fun j _ => h3 _ (by unfold slotAt; omega)), (a6 q hq).2⟩
theorem saved {J : ZS → Prop} (hJ : ∀ z z1 : ZS, (∀ i, i < 442 → z1 i = z i) → J z → J z1) {x m : XS} (h : RR J x m) : ∃ x1 m1, f_X4_save x = some x1 ∧ f_X5_save m = some m1 ∧ RR J x1 m1 ∧ m1 1 = m 1 ∧ (∀ j, j ≠ 3 → m1 0 j = m 0 j) ∧ ∀ q, q ≠ 0 → q < 55 → x1 q = x q := by
  obtain ⟨hS, hj, ⟨c, s, a1, a2, a3, a4, a5, a6⟩, hB⟩ := h
  obtain ⟨x1, e1, e2, e3, e4, e5, e6⟩ := x_save x c s a1 a2 a3 a4
  obtain ⟨m1, g1, g2, g3, g4, g5, g6⟩ := m_save m c a1 a5
  have hm1 : m1 1 = m 1 := g4 1 (by decide) (by decide)
  have hlow : ∀ q, q ≠ 0 → q < 55 → x1 q = x q := fun q h1 h2 => e5 q h1 (by omega)
  refine ⟨x1, m1, e1, g1, ⟨?_, ?_, ⟨min 6 (c + 1), (s + 1) % 6, by omega, by omega, e2, e3, g2, fun q hq => ?_⟩, hB.of (e4 6 (by decide) (by decide)) (g3 5 (by decide)) (hlow 54 (by decide) (by decide)) (g4 4 (by decide) (by decide))⟩, hm1, g3, hlow⟩
  · rw [hm1]
    exact hS.frame (fun j hj => hlow _ (by omega) (by omega))
  · rw [hm1]; exact hj
  · by_cases hq1 : q < min 5 c
    · have hrow : ∀ i, i < 442 → zrow m1 q i = zrow m (if c = 6 then q + 1 else q) i := fun i hi => g5 q hq1 i hi
      have hq2 : (if c = 6 then q + 1 else q) < c := by split <;> omega
      obtain ⟨b1, b2⟩ := a6 _ hq2
      refine ⟨?_, hJ _ _ hrow b2⟩
      refine Sim.congr ?_ hrow
      have es : slotAt (min 6 (c + 1)) ((s + 1) % 6) q = slotAt c s (if c = 6 then q + 1 else q) := by
        unfold slotAt
        split <;> omega
      rw [es]
      refine b1.frame (fun j hj => e5 _ (by unfold slotAt; omega) ?_)
      unfold slotAt
      split <;> omega
    · have eq : q = min 5 c := by omega
      subst eq
      have hrow : ∀ i, i < 442 → zrow m1 (min 5 c) i = m 1 i := g6
      refine ⟨?_, hJ _ _ hrow hj⟩
      refine Sim.congr ?_ hrow
      have es : slotAt (min 6 (c + 1)) ((s + 1) % 6) (min 5 c) = 55 + 26 * s := by unfold slotAt; omega
      rw [es]
      exact e6 _ hS
