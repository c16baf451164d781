def R_law : String := "AmendsLedgerLaw"
def lw_P (b : Addr) (xs : List Int32) (args : Array Value) (s : State) : Prop := args = #[.ref b] ∧ s.IntsAt b xs ∧ xs.length ≤ 2560 ∧ (Jvm.Cond.and given_1 narrow_1).before args s = true
/-- what a walk over the start with the record d0 says of its end, said of the start itself -/
theorem lw_closed {s t : State} {o : Outcome} {d0 : Drawn} {L : List Loc} {k n : Nat} (hd0 : s.drawn.sameBut d0 lw_cs) (hv : ∃ v, o = .returned v) (hW : (s.setDrawn d0).WarmedH t.vm) (hs : (s.setDrawn d0).sameButNew ({ t with vm := s.vm } : State) L k n) : State.butDraws s t lw_cs (fun t1 => Framed s o t1 L k n) := by
  have h2 : t.drawn = d0 := congrArg State.drawn hs.1
  refine ⟨⟨hv, hW, State.sameButNew.setDrawn hs s.drawn⟩, ?_, by decide⟩
  rw [h2]
  exact hd0
def lw_Q (_ : Array Value) (s : State) (o : Outcome) (t : State) : Prop := o = .returned (some (.int 1)) ∧ State.butDraws s t lw_cs (fun t1 => Framed s o t1 [] 601024 7293033)
def lw_Z (below : List Frame) (a : Array Value) (s : State) : State → Prop := fun t => ∃ o, t.status = .running ∧ Ended t below o ∧ lw_Q a s o t
/-- the law's own end, with 1 on the stack, nothing written that was there before, its room as the claim has it; d0: the record of draws at this point (at the entry s.drawn: begin with 'refine W.base ?_' and 'have hd0 := Drawn.sameBut.refl s.drawn lw_cs') -/
theorem lw_ret {p : Program} {l : Launch} {e : Env} {s : State} {m : MethodId} {below : List Frame} {meth : Method} {c : Code} {b : Nat} {d0 : Drawn} (hd0 : s.drawn.sameBut d0 lw_cs) (hx : p.tables.exec = Jvm.exec) (hb : c.code = code) (hr : meth.sig.returnType = ret) (hlocks : meth.locks = false) {pc : Nat} {H : Heap} {ls : Array Slot} (hdg : decode code pc = .ok (.ireturn, 1)) : W p l e room_1 (s.setDrawn d0) m #[Value.ref b] below meth c H [] 601024 7293033 (lw_Z below #[Value.ref b] s) (F0 m pc ls [.int 1]) := by
  intro T hT X
  obtain ⟨fs, hret, hrun, hended, hW, hframe⟩ := X.leave (v := some (.int 1)) (hlocks := hlocks) (fun h => by rw [hr] at h; cases h)
  have hmeth' : T.vm.method? m = some meth := X.method'
  refine ⟨T.setFrames fs, ?_, .returned (some (.int 1)), hrun, hended, rfl, lw_closed hd0 ⟨_, rfl⟩ hW hframe⟩
  jvm_step X.here [X.here.top, hx, hb, hdg, hmeth', hr, ret, narrow_b1]
  (try refine ⟨rfl, ?_⟩); (try refine ⟨rfl, ?_⟩)
  first | (intro acts; rw [hret _ acts rfl rfl rfl]) | rw [hret _ _ rfl rfl rfl]
  exact Steps.refl _
/-- what holds at the law's entry: the machine, the code, the tables' words (any of lw_tbl by 'hts w (by decide +kernel)'), the script of L ints xs at the cell b, what the Statement gives of the start (any of its parts by flat_of_before) -/
def lw_At (p : Program) (s : State) (m : MethodId) (meth : Method) (c : Code) (b L : Nat) (xs : Nat → Int32) : Prop :=
  p.tables.exec = Jvm.exec ∧ c.code = code ∧ meth.sig.returnType = ret ∧ c.maxLocals = 9 ∧ s.vm.findClass R_law = some m.cls ∧ (∀ w ∈ lw_tbl, w.before #[Value.ref b] s = true) ∧ va_X b L xs s s.heap ∧ b < s.heap.size ∧ meth.locks = false ∧ (Jvm.Cond.and given_1 narrow_1).before #[Value.ref b] s = true
theorem q_75 : Cond.classLink RL 8 RX4 ∈ BG := bg 75 (by decide +kernel) rfl
theorem q_77 : Cond.methodLink RL 86 yX4_init ∈ BG := bg 77 (by decide +kernel) rfl
theorem q_906 : Cond.classLink RL 87 RX5 ∈ BG := bg 906 (by decide +kernel) rfl
theorem q_908 : Cond.methodLink RL 89 yX5_init ∈ BG := bg 908 (by decide +kernel) rfl
def sx (j : Nat) : Nat → Int32 := if j = 21 then (fun _ => -1) else if j = 22 then fF else if j = 23 then (fun _ => 500) else if j = 24 then (fun _ => 500) else fun _ => 0
def xS : XS := fun k => if k = 0 then (fun _ => 0) else if k < 53 then sx ((k - 1) % 26) else if k < 55 then (fun _ => 0) else sx ((k - 55) % 26)
def zS : Nat → Int32 := (upd (upd (upd (upd (upd (upd (upd (upd (upd (upd (upd (upd (upd (upd (upd (upd (upd (upd (upd (upd (upd (upd (upd (fun _ => 0) 2 2) 3 1) 4 50) 6 500) 7 500) 34 500) 35 500) 62 500) 63 500) 90 500) 91 500) 118 (-1)) 119 (-1)) 120 (-1)) 121 (-1)) 122 (-1)) 123 (-1)) 124 (-1)) 125 (-1)) 126 (-1)) 127 (-1)) 128 (-1)) 129 (-1))
def mS : XS := fun k => if k = 1 then zS else fun _ => 0
abbrev Lfull (E : TE) : List va_E := (finX4 E 0 ++ finX5 E 211) ++ [(.inl (eL E, 1, .inr (.inl (fun _ => 0))) : va_E)]
abbrev sv (E : TE) (f : Nat → Option Nat) : va_E := .inl (eS E, 6, .inr (.inr (.inr (.inr f))))
def svf (E : TE) : Nat → Option Nat := (va_up (va_up (va_up (va_up (va_up (va_up (fun _ => none) 0 (some (eh E + (0 + 55)))) 1 (some (eh E + (0 + 81)))) 2 (some (eh E + (0 + 107)))) 3 (some (eh E + (0 + 133)))) 4 (some (eh E + (0 + 159)))) 5 (some (eh E + (0 + 185))))
set_option maxRecDepth 100000 in
set_option maxHeartbeats 4000000 in
theorem fin_53 (E : TE) : (Lfull E)[53]? = some (sv E (svf E)) := by rfl
set_option maxRecDepth 100000 in
set_option maxHeartbeats 4000000 in
theorem fin_eq (E : TE) : (Lfull E).set 53 (sv E (fun i => some (eh E + (55 + 26 * i)))) = (List.range 218).map (fun k => cellV E xS mS 0 0 k) := by rfl
theorem PB.arrq {E : TE} {L : List va_E} {H : Heap} {k : Nat} {f1 f2 : Nat → Option Nat} (hc : L[k]? = some (sv E f1)) (he : ∀ j, j < 6 → f1 j = f2 j) (hW : PB E L H) : PB E (L.set k (sv E f2)) H := by
  refine ⟨by rw [List.length_set]; exact hW.1, fun j r hj => ?_⟩
  by_cases h : k = j
  · subst h
    have hl : k < (L.set k (sv E f2)).length := (List.getElem?_eq_some_iff.mp hj).1
    rw [List.getElem?_set_self (by simpa using hl)] at hj
    cases hj
    have h9 : H[eh E + k]? = some (vp_cell (eS E) (6, .inr (.inr (.inr (.inr f1))))) := hW.2 k _ hc
    show H[eh E + k]? = some (vp_cell (eS E) (6, .inr (.inr (.inr (.inr f2)))))
    rw [h9, vp_cell_q, vp_cell_q]
    exact congrArg some (arrV_congr (fun j hj => by rw [he j hj]))
  · rw [List.getElem?_set_ne h] at hj
    exact hW.2 j r hj
theorem svf_eq (E : TE) (j : Nat) (hj : j < 6) : svf E j = some (eh E + (55 + 26 * j)) := by
  rcases (show j = 0 ∨ j = 1 ∨ j = 2 ∨ j = 3 ∨ j = 4 ∨ j = 5 by omega) with rfl | rfl | rfl | rfl | rfl | rfl <;> rfl
theorem Wd_start {E : TE} {H : Heap} (h : PB E (Lfull E) H) : Wd E xS mS 0 0 H := by
  have h := h.arrq (fin_53 E) (svf_eq E)
  rw [fin_eq] at h
  refine ⟨by rw [h.1, List.length_map, List.length_range]; exact Nat.le_refl _, fun k hk => h.2 k _ (by rw [List.getElem?_map, List.getElem?_range hk]; rfl)⟩
theorem NW_ix : NW = ([119, 120, 161, 177, 190, 192, 194, 200, 91, 114, 179, 300, 318, 323, 328, 337, 342, 573, 574, 641, 487, 397, 716, 398, 399, 400, 401, 402, 403] : List Nat).filterMap (fun i => lw_tbl[i]?) := by decide +kernel
theorem NW_on : NW.all (fun w => w.onTables) = true := by decide +kernel
set_option maxRecDepth 100000 in
set_option maxHeartbeats 4000000 in
theorem whole_of {R : XS → XS → Prop} (hP : PO R) (h0 : R xS mS) {p : Program} {e : Env} {s : State} {m : MethodId} {below : List Frame} {meth : Method} {c : Code} (l : Launch) (hflags : l.flags = flags0) {b L : Nat} {xs : Nat → Int32} (hL : L ≤ 2560) (C0 : lw_At p s m meth c b L xs) : W p l e room_1 s m #[Value.ref b] below meth c s.heap [] 0 0 (lw_Z below #[Value.ref b] s) (entryFrame m ([Value.ref b] : List Value).toArray 9) := by
  have hst : l.stackTraces = false := by unfold Launch.stackTraces; rw [hflags]; decide
  obtain ⟨hx, hb, hr, hml, hown, hts, hX, hbl, hlk, hgv⟩ := C0
  have hT : ∀ {w : Cond} (i : Nat), lw_tbl[i]? = some w → w.before #[Value.ref b] s = true := fun i h => hts _ (List.mem_of_getElem? h)
  have hB : ∀ w ∈ BG, w.before #[Value.ref b] s = true := fun w hw => hts w (List.mem_filter.mp hw).1
  have hN : ∀ {w : Cond} (i : Nat), (flatC (Jvm.Cond.and given_1 narrow_1))[i]? = some w → w.before #[Value.ref b] s = true := fun i h => flat_of_before _ hgv _ (List.mem_of_getElem? h)
  have hA : ∀ a : Nat, a < s.heap.size → ¬ s.heap.size ≤ a := fun a h => Nat.not_le.mpr h
  obtain ⟨c0, i0, k0⟩ := u_known hB inB_X0 (hB _ qm_inX0)
  obtain ⟨c1, i1, k1⟩ := u_known hB inB_X1 (hB _ qm_inX1)
  obtain ⟨c2, i2, k2⟩ := u_known hB inB_X2 (hB _ qm_inX2)
  obtain ⟨c3, i3, k3⟩ := u_known hB inB_X3 (hB _ qm_inX3)
  obtain ⟨c4, i4, k4⟩ := u_known hB inB_X4 (hB _ qm_inX4)
  obtain ⟨c5, i5, k5⟩ := u_known hB inB_X5 (hB _ qm_inX5)
  obtain ⟨cI, kI, mI, a1, a2, a3⟩ := Cond.arrayClass_spec (hB _ qm_arrI)
  obtain ⟨cL, kL, mL, b1, b2, b3⟩ := Cond.arrayClass_spec (hB _ qm_arrL)
  have hAO : (Cond.arrayOver (.object "AmendsLedger$State")).before #[Value.ref b] s = true := hT 218 (by decide +kernel)
  obtain ⟨cs, cS, kS, s1, s2, s3, s4, s5⟩ := Cond.arrayOver_spec hAO
  obtain ⟨tF, vF, TF⟩ := va_Tof (N := 3) (f := fun j => .int (fF j)) (A := fun q => s.heap.size ≤ q) (by decide) (hN 5 rfl) (va_eqt (hN 6 rfl)) (fun j hj => by
    rcases (show j = 0 ∨ j = 1 ∨ j = 2 by omega) with rfl | rfl | rfl
    · exact va_eqt (hN 7 rfl)
    · exact va_eqt (hN 8 rfl)
    · exact va_eqt (hN 9 rfl)) hA
  have ZF := va_Zref (hT 178 (by decide +kernel)) (hT 58 (by decide +kernel)) vF hA
  obtain ⟨tM, vM, TM⟩ := va_Tof (N := 3) (f := fun j => .int (fM j)) (A := fun q => s.heap.size ≤ q) (by decide) (hN 13 rfl) (va_eqt (hN 14 rfl)) (fun j hj => by
    rcases (show j = 0 ∨ j = 1 ∨ j = 2 by omega) with rfl | rfl | rfl
    · exact va_eqt (hN 15 rfl)
    · exact va_eqt (hN 16 rfl)
    · exact va_eqt (hN 17 rfl)) hA
  have ZM := va_Zref (hT 777 (by decide +kernel)) (hT 58 (by decide +kernel)) vM hA
  obtain ⟨tG, vG, TG⟩ := va_Tof (N := 3) (f := fun j => .int (fG j)) (A := fun q => s.heap.size ≤ q) (by decide) (hN 19 rfl) (va_eqt (hN 20 rfl)) (fun j hj => by
    rcases (show j = 0 ∨ j = 1 ∨ j = 2 by omega) with rfl | rfl | rfl
    · exact va_eqt (hN 21 rfl)
    · exact va_eqt (hN 22 rfl)
    · exact va_eqt (hN 23 rfl)) hA
  have ZG := va_Zref (hT 779 (by decide +kernel)) (hT 58 (by decide +kernel)) vG hA
  have U1 : vx_Zq Bundle.tN "UNASSIGNED_STACK" Bundle.steD (fun q => s.heap.size ≤ q) s s.heap := vx_Zqof (hT 422 (by decide +kernel)) (hT 67 (by decide +kernel)) (hN 10 rfl) hA
  have U2 : vx_Zq Bundle.tN "SUPPRESSED_SENTINEL" Bundle.listD (fun q => s.heap.size ≤ q) s s.heap := vx_Zqof (hT 424 (by decide +kernel)) (hT 67 (by decide +kernel)) (hN 11 rfl) hA
  obtain ⟨E, hE⟩ : ∃ E : TE, E = ((fun q => if q = 0 then c0 else if q = 1 then c1 else if q = 2 then c2 else if q = 3 then c3 else if q = 4 then c4 else c5, fun q => if q = 0 then i0 else if q = 1 then i1 else if q = 2 then i2 else if q = 3 then i3 else if q = 4 then i4 else i5), (cI, cS, cL), s.heap.size, (tF, tM, tG)) := ⟨_, rfl⟩
  have hNW : ∀ w ∈ NW, va_Nw w s := by
    intro w hw
    have h1 := List.all_eq_true.mp NW_on w hw
    rw [NW_ix] at hw
    obtain ⟨i, -, hi⟩ := List.mem_filterMap.mp hw
    exact va_Nw.of h1 (hT i hi)
  have hNC : ∀ q ∈ NCL, va_Nc q.1 q.2 s := by
    intro q hq
    unfold NCL at hq
    rcases List.mem_cons.mp hq with rfl | hq
    · exact va_Nc.of (hN 38 rfl)
    rcases List.mem_cons.mp hq with rfl | hq
    · exact va_Nc.of (hN 46 rfl)
    rcases List.mem_cons.mp hq with rfl | hq
    · exact va_Nc.of (hN 30 rfl)
    rcases List.mem_cons.mp hq with rfl | hq
    · exact va_Nc.of (hN 47 rfl)
    rcases List.mem_cons.mp hq with rfl | hq
    · exact va_Nc.of (hN 31 rfl)
    rcases List.mem_cons.mp hq with rfl | hq
    · exact va_Nc.of (hN 39 rfl)
    exact nomatch hq
  have hK : Ks E s := by
    subst hE
    refine ⟨⟨fun k q hq => ?_, fun k q hq => ?_⟩, hNW, ⟨⟨ZF, TF⟩, ⟨ZM, TM⟩, ⟨ZG, TG⟩⟩, ⟨U1, U2⟩, hNC⟩
    · rcases k with _ | _ | _ | _ | _ | _ | k
      · cases hq; exact k0
      · cases hq; exact k1
      · cases hq; exact k2
      · cases hq; exact k3
      · cases hq; exact k4
      · cases hq; exact k5
      · cases hq
    · rcases k with _ | _ | _ | k
      · cases hq; exact ⟨fun n z => ⟨fun k h => (by cases h), kI, a2, mI, a3⟩, a1⟩
      · cases hq; exact ⟨fun n z => ⟨fun k h => (by cases h), kS, s3, cs, s4⟩, kS, cs, s3, s4, s1, s5⟩
      · cases hq; exact ⟨fun n z => ⟨fun k h => (by cases h), kL, b2, mL, b3⟩, b1⟩
      · cases hq
  have heh : eh E = s.heap.size := by rw [hE]
  have hKc : Kc E s := ⟨hK, va_AO.of hAO⟩
  have hbA : ¬ Ah E b := by show ¬ eh E ≤ b; rw [heh]; exact Nat.not_le.mpr hbl
  have hown : s.vm.findClass RL = some m.cls := hown
  have hb : c.code = cL_law := hb
  have hW : PB E [] s.heap := ⟨heh.symm, fun k q hq => by cases hq⟩
  have hS : va_S (Ah E) s.heap s.heap [] := va_S.rf
  rw [lg_entry_eq]
  have hl := lv_entry [Value.ref b] (n := 9) (Nat.le_of_ble_eq_true rfl)
  have hl : lv_has _ 9 [(0, .ref b)] := hl
  refine p_new (L := []) (a := 0) hx hb hB hK (C := RX4) (T := TX4) (N := 7) (ci := 4) inB_X4 tyX4 tyX4_ok hown q_75 qm_inX4 qm_irX4 hW hS rfl (fs := [.null, .null, .null, .int 0, .int 0, .null, .int 0]) (fun j hj => by rcases (show j = 0 ∨ j = 1 ∨ j = 2 ∨ j = 3 ∨ j = 4 ∨ j = 5 ∨ j = 6 by omega) with rfl | rfl | rfl | rfl | rfl | rfl | rfl <;> rfl) (Nat.le_of_ble_eq_true rfl) (Nat.le_of_ble_eq_true rfl) rfl dL_law_0 (fun H hW hS => ?_)
  refine lv_dup hx hb dL_law_3 rfl ?_
  refine c_I (rest := [rf E 0]) (i_X4 l E [] 0 rfl) (kw_I hB qm_icX4 qm_irX4 q_77 qm_iiX4 rfl (by decide +kernel) ⟨Nat.le_of_ble_eq_true rfl, Nat.le_of_ble_eq_true rfl⟩) hx hb hml hown hB hKc hW hS ⟨Nat.le_of_ble_eq_true rfl, Nat.le_of_ble_eq_true rfl⟩ hl.1 (Nat.le_of_ble_eq_true rfl) dL_law_4 (fun H locs hW hS => ?_)
  have hW : PB E (finX4 E 0) H := hW
  refine lv_astore_n (lv' := [(1, rf E 0), (0, .ref b)]) hx hb dL_law_7 rfl hl (by decide) rfl (fun ls hl => ?_)
  refine p_new (L := finX4 E 0) (a := 211) hx hb hB hK (C := RX5) (T := TX5) (N := 12) (ci := 5) inB_X5 tyX5 tyX5_ok hown q_906 qm_inX5 qm_irX5 hW hS rfl (fs := [.null, .null, .null, .int 0, .null, .int 0, .int 0, .int 0, .int 0, .int 0, .null, .long 0]) (fun j hj => by rcases (show j = 0 ∨ j = 1 ∨ j = 2 ∨ j = 3 ∨ j = 4 ∨ j = 5 ∨ j = 6 ∨ j = 7 ∨ j = 8 ∨ j = 9 ∨ j = 10 ∨ j = 11 by omega) with rfl | rfl | rfl | rfl | rfl | rfl | rfl | rfl | rfl | rfl | rfl | rfl <;> rfl) (Nat.le_of_ble_eq_true rfl) (Nat.le_of_ble_eq_true rfl) rfl dL_law_8 (fun H hW hS => ?_)
  refine lv_dup hx hb dL_law_11 rfl ?_
  refine c_I (rest := [rf E 211]) (i_X5 l E (finX4 E 0) 211 rfl) (kw_I hB qm_icX5 qm_irX5 q_908 qm_iiX5 rfl (by decide +kernel) ⟨Nat.le_of_ble_eq_true rfl, Nat.le_of_ble_eq_true rfl⟩) hx hb hml hown hB hKc hW hS ⟨Nat.le_of_ble_eq_true rfl, Nat.le_of_ble_eq_true rfl⟩ hl.1 (Nat.le_of_ble_eq_true rfl) dL_law_12 (fun H locs hW hS => ?_)
  refine lv_astore_n (lv' := [(2, rf E 211), (1, rf E 0), (0, .ref b)]) hx hb dL_law_15 rfl hl (by decide) rfl (fun ls hl => ?_)
  refine lv_iconst (v := 1) hx hb dL_law_16 (by decide) ?_
  refine p_newl (L := finX4 E 0 ++ finX5 E 211) (a := 217) hx hb hB hK hW hS (Nat.le_of_ble_eq_true rfl) (Nat.le_of_ble_eq_true rfl) rfl dL_law_17 (fun H hW hS => ?_)
  refine lv_astore_n (lv' := [(3, rf E 217), (2, rf E 211), (1, rf E 0), (0, .ref b)]) hx hb dL_law_19 rfl hl (by decide) rfl (fun ls hl => ?_)
  refine lv_iconst (v := nI 0) hx hb dL_law_20 (by decide) ?_
  refine lv_istore (lv' := [(4, .int (nI 0)), (3, rf E 217), (2, rf E 211), (1, rf E 0), (0, .ref b)]) hx hb dL_law_21 hl (by decide) rfl (fun ls hl => ?_)
  refine law_loop l hst hP hx hb hml hown hB hK hX hbl hbA hL (fun H locs ls hS => ?_) L 0 0 xS mS 0 0 H _ ls (by omega) rfl (Nat.zero_le _) h0 (Wd_start hW) hS (lv_sub hl [4, 3, 2, 1, 0] rfl)
  refine lv_iconst (v := 1) hx hb dL_law_1720 (by decide) ?_
  refine va_forget (fun q hq => by have h9 := hS.2.2 q hq; rw [← heh]; exact h9) ?_
  exact lw_ret (Drawn.sameBut.refl s.drawn lw_cs) hx hb hr hlk dL_law_1721
