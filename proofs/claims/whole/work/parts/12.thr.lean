abbrev rmT (d : Nat) : Room := { frames := d, cells := 1, slots := 6, locals := 28 * d }
def QX (E : TE) (nm : String) (W1 : Heap → Prop) : String → State → State → Prop := fun F st t => F = nm ∧ W1 t.heap ∧ va_F (Ah E) st t
abbrev QF : Array Value → State → Outcome → State → Prop := fun _ _ _ _ => False
def MT (l : Launch) (E : TE) (y : MethodName) (b : ByteArray) (n : Nat) (ret : Option FieldType) (d : Nat) (As : List Value) (W0 : Heap → Prop) (nm : String) : Prop :=
  vx_Met l y (wsM y b n ret) (rmT d) (va_Pc As (fun U => Ks E U ∧ W0 U.heap)) QF (QX E nm W0) 1 6 (Ah E)
def ET (E : TE) (below : List Frame) (args : Array Value) (s : State) (W0 : Heap → Prop) (nm : String) : State → Prop := vx_MQ below QF (QX E nm W0) args s 1 6 (Ah E)
theorem t_in {l : Launch} {E : TE} {y : MethodName} {b : ByteArray} {n : Nat} {ret : Option FieldType} {d : Nat} {As : List Value} {W0 : Heap → Prop} {nm : String} (hy : plainName y.cls = true) (hA : (lg_sl As).length ≤ n)
    (body : ∀ (p : Program) (e : Env) (s : State) (mi : MethodId) (args : Array Value) (below : List Frame) (meth : Method) (c : Code) (H : Heap) (ls : Array Slot), p.tables.exec = Jvm.exec → c.code = b → meth.locks = false → (∀ x ∈ c.exceptionTable.toList, False) → c.maxLocals = n → s.vm.findClass y.cls = some mi.cls → (∀ w ∈ BG, w.before args s = true) → Ks E s → W0 H → va_S (Ah E) s.heap H [] → lv_has ls n (lv_args 0 As) →
      W p l e (rmT d) s mi args below meth c H [] 0 0 (ET E below args s W0 nm) (F0 mi 0 ls [])) : MT l E y b n ret d As W0 nm := by
  refine vx_ofW (cc := b) (maxL := n) (ret := ret) hy rfl ?_
  intro p e s mi args below meth c s₁ B hml htab hv
  obtain ⟨rfl, hK, hW⟩ := hv
  have hl := lv_entry As (n := n) hA
  rw [lg_entry_eq]
  exact body p e s mi _ below meth c s.heap _ B.exec B.bytes B.notSynchronized htab hml (findClass_of_methodNamed B.named) (fun w hw => atoms_spec (ws := wsM y b n ret) B.pre w (List.mem_cons_of_mem _ hw)) hK hW va_S.rf hl
abbrev exL (ic : Nat) (X : String) : List Cond := vx_at0 RX4 ic X ["java/lang/RuntimeException", "java/lang/Exception"]
theorem ex_hat {args : Array Value} {s : State} {E : TE} (hB : ∀ w ∈ BG, w.before args s = true) (hK : Ks E s) {L : List Cond} (h1 : L.all (fun w => !goodWord w || decide (w ∈ lw_tbl)) = true) (h2 : L.all (fun w => goodWord w || (decide (w ∈ NW) && w.onTables)) = true) : ∀ w ∈ L, w.before args s = true := by
  intro w hw
  have a := List.all_eq_true.mp h1 w hw
  have b := List.all_eq_true.mp h2 w hw
  by_cases g : goodWord w = true
  · rw [g] at a
    exact hB w (List.mem_filter.mpr ⟨by simpa using a, g⟩)
  · have g' : goodWord w = false := by simpa using g
    rw [g'] at b
    simp only [Bool.false_or, Bool.and_eq_true, decide_eq_true_eq] at b
    exact va_Nw.use b.2 (hK.nw b.1)
theorem exI_1 : (exL 314 "java/lang/IndexOutOfBoundsException").all (fun w => !goodWord w || decide (w ∈ lw_tbl)) = true := by decide +kernel
theorem exI_2 : (exL 314 "java/lang/IndexOutOfBoundsException").all (fun w => goodWord w || (decide (w ∈ NW) && w.onTables)) = true := by decide +kernel
theorem exI_3 : (Cond.classLink RX4 312 "java/lang/IndexOutOfBoundsException" :: Cond.initialized "java/lang/IndexOutOfBoundsException" :: exL 314 "java/lang/IndexOutOfBoundsException").all vx_ot = true := by decide +kernel
theorem exA_1 : (exL 317 "java/lang/IllegalArgumentException").all (fun w => !goodWord w || decide (w ∈ lw_tbl)) = true := by decide +kernel
theorem exA_2 : (exL 317 "java/lang/IllegalArgumentException").all (fun w => goodWord w || (decide (w ∈ NW) && w.onTables)) = true := by decide +kernel
theorem exA_3 : (Cond.classLink RX4 315 "java/lang/IllegalArgumentException" :: Cond.initialized "java/lang/IllegalArgumentException" :: exL 317 "java/lang/IllegalArgumentException").all vx_ot = true := by decide +kernel
theorem exS_1 : (exL 320 "java/lang/IllegalStateException").all (fun w => !goodWord w || decide (w ∈ lw_tbl)) = true := by decide +kernel
theorem exS_2 : (exL 320 "java/lang/IllegalStateException").all (fun w => goodWord w || (decide (w ∈ NW) && w.onTables)) = true := by decide +kernel
theorem exS_3 : (Cond.classLink RX4 318 "java/lang/IllegalStateException" :: Cond.initialized "java/lang/IllegalStateException" :: exL 320 "java/lang/IllegalStateException").all vx_ot = true := by decide +kernel
theorem Wd.kept {E : TE} {x m : XS} {g o : Int64} {H H1 : Heap} (hW : Wd E x m g o H) (hz : H.size ≤ H1.size) (hk : ∀ q : Nat, q < H.size → H1[q]? = H[q]?) : Wd E x m g o H1 := by
  refine ⟨Nat.le_trans hW.1 hz, fun k hq => (hW.2 k hq).kept (hk _ ?_)⟩
  have := hW.1
  show eh E + k < H.size
  omega
section TK
variable {p : Program} {l : Launch} {e : Env} {R : Room} {s : State} {mi : MethodId} {args : Array Value} {below : List Frame} {meth : Method} {c : Code} {H : Heap} {locs : List Loc} {cells slots : Nat} {Q : State → Prop}
variable {cc : ByteArray} {pc : Nat} {ls : Array Slot} {rest : List Value} {E : TE} {x m : XS} {g o : Int64} {W0 : Heap → Prop} {nm : String}
theorem c_T {y : MethodName} {b : ByteArray} {n nL d k : Nat} {ret : Option FieldType} {As st0 : List Value} {own : String} {index : Nat} {W1 : Heap → Prop} (hM : MT l E y b n ret d As W1 nm) (cw : CallB R s args own index y b n ret (wsM y b n ret) (rmT d) 1 6 k ∧ (Cond.static y).before args s = true) (hx : p.tables.exec = Jvm.exec) (hb : c.code = cc) (hml : c.maxLocals = nL) (hown : s.vm.findClass own = some mi.cls) (hB : ∀ w ∈ BG, w.before args s = true) (hK : Ks E s) (hW : W1 H) (hWW : ∀ H, W1 H → W0 H) (hS : va_S (Ah E) s.heap H locs) (hc : 1 ≤ R.cells ∧ 6 ≤ R.slots) (hn : As.length = k) (hsize : ls.size = nL) (hst : st0 = As.reverse ++ rest) (hroom : (rest.map fun v => v.category).sum ≤ 8) (htab : ∀ x ∈ c.exceptionTable.toList, False) (hlk : meth.locks = false) (hdg : decode cc pc = .ok (.invokestatic index, 3)) :
    W p l e R s mi args below meth c H locs 0 0 (ET E below args s W0 nm) (F0 mi pc ls st0) := by
  have hr := vx_runS (Ts := BG) (g := F0 mi pc ls st0) (H := H) (locs := locs) (cells := 0) (slots := 0) (below := below) (meth := meth) (e := e) ⟨hx, hb, hml, hown, hB⟩ hM cw ⟨pc_blind, pc_go hK hS hW⟩ rfl hn hsize hst (lv_room hroom) hdg ⟨by omega, by omega⟩
  intro T hT X
  rcases hr T hT X with ⟨v, st₀, t, T', L, h0, X', hL, e1, e2, hq, st⟩ | ⟨q, st₀, t, T', L, F, ce, h0, X', hL, e1, e2, ⟨rfl, hw, hz, hk⟩, hce, hcv, hcl, st⟩
  · exact hq.elim
  · rw [h0] at hz hk
    have hS1 : va_S (Ah E) s.heap T'.heap (locs ++ L) := ⟨Nat.le_trans hS.1 (by rw [e1]; exact hz), fun q h1 h2 => by rw [e1, hk q (Nat.lt_of_lt_of_le h1 hS.1) h2]; exact hS.2.1 q h1 h2, fun q hq => by
      rcases List.mem_append.mp hq with h | h
      · exact hS.2.2 q h
      · exact hL q h⟩
    have hout : vx_W p l e R s mi args below meth c T'.heap (locs ++ L) (0 + 1) (0 + 6) (ET E below args s W0 F) (F0 mi pc ls rest) q :=
      vx_out (fun x hx => (htab x hx).elim) hlk (by rw [e1]; exact hce) hcv hcl (fun t2 ht2 _ => ⟨rfl, hWW _ (by rw [ht2, e1]; exact hw), hS1.F ht2⟩) hS1.2.2 (Nat.le_refl _) (Nat.le_refl _)
    obtain ⟨t2, a1, b1⟩ := hout T' rfl X'
    exact ⟨t2, st.trans a1, b1⟩
end TK
theorem kT_S {R : Room} {s : State} {args : Array Value} {own : String} {index k d n : Nat} {y : MethodName} {b : ByteArray} {ret : Option FieldType} (hB : ∀ w ∈ BG, w.before args s = true) (hcode : Cond.code y b n ret ∈ BG) (hini : Cond.initialized y.cls ∈ BG) (hl : Cond.methodLink own index y ∈ BG) (hst : Cond.static y ∈ BG) (hd : y.cls ≠ "java/lang/invoke/MethodHandle" ∧ y.cls ≠ "java/lang/invoke/VarHandle" ∧ (parseMethodDescriptor y.desc).map (fun d => d.parameters.length) = some k) (hR : (rmT d).frames + 1 ≤ R.frames ∧ 8 + (n + 11) + (rmT d).locals ≤ R.locals) :
    CallB R s args own index y b n ret (wsM y b n ret) (rmT d) 1 6 k ∧ (Cond.static y).before args s = true :=
  ⟨callB_of k hB (wsM_good hcode) rfl rfl rfl (hB _ hini) (hB _ hl) hd hR, hB _ hst⟩
set_option maxRecDepth 100000 in
set_option maxHeartbeats 4000000 in
theorem t_X4_requireIndex (l : Launch) (hst : l.stackTraces = false) (E : TE) (x m : XS) (g o : Int64) : MT l E yX4_requireIndex cX4_requireIndex 1 none 6 [.int 0] (Wd E x m g o) "java/lang/IndexOutOfBoundsException" := by
  refine t_in (by decide) (Nat.le_of_ble_eq_true rfl) ?_
  intro p e s mi args below meth c H ls hx hb hlk htab hml hown hB hK hW hS hl
  have hl : lv_has ls 1 [(0, .int 0)] := hl
  refine lv_iload_n hx hb dX4_requireIndex_0 rfl (lv_at hl 0 rfl) ?_
  refine lv_if_ne (tgt := 12) hx hb dX4_requireIndex_1 (by decide) (fun c1 => absurd rfl c1) (fun c1 => ?_)
  exact vx_throw0 (A := Ah E) hx hb hst hown (by decide +kernel) (by decide +kernel) (hB _ q_485) (hB _ q_70) (ex_hat hB hK exI_1 exI_2) (fun w hw => List.all_eq_true.mp exI_3 w hw) hK.2.2.2.1.1 hK.2.2.2.1.2 hS (hl.1.trans hml.symm) dX4_requireIndex_4 dX4_requireIndex_7 dX4_requireIndex_8 dX4_requireIndex_11 (fun x hx => (htab x hx).elim) (Nat.le_of_ble_eq_true rfl) (Nat.le_of_ble_eq_true rfl) (Nat.le_of_ble_eq_true rfl) (Nat.le_of_ble_eq_true rfl) hlk (fun t _ hz hk => ⟨rfl, hW.kept hz hk, ⟨Nat.le_trans hS.1 hz, fun q h1 h2 => (hk q (Nat.lt_of_lt_of_le h1 hS.1)).trans (hS.2.1 q h1 h2)⟩⟩) hS.2.2 (Nat.le_refl _) (Nat.le_refl _)
set_option maxRecDepth 100000 in
set_option maxHeartbeats 4000000 in
theorem t_X4_requireArgument (l : Launch) (hst : l.stackTraces = false) (E : TE) (x m : XS) (g o : Int64) : MT l E yX4_requireArgument cX4_requireArgument 1 none 6 [.int 0] (Wd E x m g o) "java/lang/IllegalArgumentException" := by
  refine t_in (by decide) (Nat.le_of_ble_eq_true rfl) ?_
  intro p e s mi args below meth c H ls hx hb hlk htab hml hown hB hK hW hS hl
  have hl : lv_has ls 1 [(0, .int 0)] := hl
  refine lv_iload_n hx hb dX4_requireArgument_0 rfl (lv_at hl 0 rfl) ?_
  refine lv_if_ne (tgt := 12) hx hb dX4_requireArgument_1 (by decide) (fun c1 => absurd rfl c1) (fun c1 => ?_)
  exact vx_throw0 (A := Ah E) hx hb hst hown (by decide +kernel) (by decide +kernel) (hB _ q_395) (hB _ q_71) (ex_hat hB hK exA_1 exA_2) (fun w hw => List.all_eq_true.mp exA_3 w hw) hK.2.2.2.1.1 hK.2.2.2.1.2 hS (hl.1.trans hml.symm) dX4_requireArgument_4 dX4_requireArgument_7 dX4_requireArgument_8 dX4_requireArgument_11 (fun x hx => (htab x hx).elim) (Nat.le_of_ble_eq_true rfl) (Nat.le_of_ble_eq_true rfl) (Nat.le_of_ble_eq_true rfl) (Nat.le_of_ble_eq_true rfl) hlk (fun t _ hz hk => ⟨rfl, hW.kept hz hk, ⟨Nat.le_trans hS.1 hz, fun q h1 h2 => (hk q (Nat.lt_of_lt_of_le h1 hS.1)).trans (hS.2.1 q h1 h2)⟩⟩) hS.2.2 (Nat.le_refl _) (Nat.le_refl _)
set_option maxRecDepth 100000 in
set_option maxHeartbeats 4000000 in
theorem t_X4_requireState (l : Launch) (hst : l.stackTraces = false) (E : TE) (x m : XS) (g o : Int64) : MT l E yX4_requireState cX4_requireState 1 none 6 [.int 0] (Wd E x m g o) "java/lang/IllegalStateException" := by
  refine t_in (by decide) (Nat.le_of_ble_eq_true rfl) ?_
  intro p e s mi args below meth c H ls hx hb hlk htab hml hown hB hK hW hS hl
  have hl : lv_has ls 1 [(0, .int 0)] := hl
  refine lv_iload_n hx hb dX4_requireState_0 rfl (lv_at hl 0 rfl) ?_
  refine lv_if_ne (tgt := 12) hx hb dX4_requireState_1 (by decide) (fun c1 => absurd rfl c1) (fun c1 => ?_)
  exact vx_throw0 (A := Ah E) hx hb hst hown (by decide +kernel) (by decide +kernel) (hB _ q_714) (hB _ q_72) (ex_hat hB hK exS_1 exS_2) (fun w hw => List.all_eq_true.mp exS_3 w hw) hK.2.2.2.1.1 hK.2.2.2.1.2 hS (hl.1.trans hml.symm) dX4_requireState_4 dX4_requireState_7 dX4_requireState_8 dX4_requireState_11 (fun x hx => (htab x hx).elim) (Nat.le_of_ble_eq_true rfl) (Nat.le_of_ble_eq_true rfl) (Nat.le_of_ble_eq_true rfl) (Nat.le_of_ble_eq_true rfl) hlk (fun t _ hz hk => ⟨rfl, hW.kept hz hk, ⟨Nat.le_trans hS.1 hz, fun q h1 h2 => (hk q (Nat.lt_of_lt_of_le h1 hS.1)).trans (hS.2.1 q h1 h2)⟩⟩) hS.2.2 (Nat.le_refl _) (Nat.le_refl _)
def exn : Nat → String
  | 1 => "java/lang/IndexOutOfBoundsException"
  | 2 => "java/lang/IllegalArgumentException"
  | _ => "java/lang/IllegalStateException"
theorem kT_X4_31 {R : Room} {s : State} {args : Array Value} (hB : ∀ w ∈ BG, w.before args s = true) (hR : (rmT 6).frames + 1 ≤ R.frames ∧ 8 + (1 + 11) + (rmT 6).locals ≤ R.locals) : CallB R s args RX4 31 yX4_requireIndex cX4_requireIndex 1 none (wsM yX4_requireIndex cX4_requireIndex 1 none) (rmT 6) 1 6 1 ∧ (Cond.static yX4_requireIndex).before args s = true := kT_S hB q_484 q_58 q_482 q_483 (by decide +kernel) hR
theorem kT_X4_39 {R : Room} {s : State} {args : Array Value} (hB : ∀ w ∈ BG, w.before args s = true) (hR : (rmT 6).frames + 1 ≤ R.frames ∧ 8 + (1 + 11) + (rmT 6).locals ≤ R.locals) : CallB R s args RX4 39 yX4_requireArgument cX4_requireArgument 1 none (wsM yX4_requireArgument cX4_requireArgument 1 none) (rmT 6) 1 6 1 ∧ (Cond.static yX4_requireArgument).before args s = true := kT_S hB q_394 q_58 q_392 q_393 (by decide +kernel) hR
theorem kT_X4_52 {R : Room} {s : State} {args : Array Value} (hB : ∀ w ∈ BG, w.before args s = true) (hR : (rmT 6).frames + 1 ≤ R.frames ∧ 8 + (1 + 11) + (rmT 6).locals ≤ R.locals) : CallB R s args RX4 52 yX4_requireState cX4_requireState 1 none (wsM yX4_requireState cX4_requireState 1 none) (rmT 6) 1 6 1 ∧ (Cond.static yX4_requireState).before args s = true := kT_S hB q_713 q_58 q_711 q_712 (by decide +kernel) hR
def t_X4_offer_60 (x : XS) (l1_60 : Int32) (l2_60 : Int32) (l3_60 : Int32) (l4_60 : Int32) (t0_60 : Int32) : Option (Nat) :=
    if (t0_60 = 0 : Prop) then some 3 else
    none
def t_X4_offer (x : XS) (a0 : Int32) (a1 : Int32) (a2 : Int32) (a3 : Int32) : Option (Nat) :=
    (f_X4_isKind a0).bind fun v1 =>
    if (v1 = 0 : Prop) then some 1 else
    (f_X4_isWithin a1 0 999).bind fun v12 =>
    if (v12 = 0 : Prop) then some 2 else
    (f_X4_isWithin a2 1 9).bind fun v22 =>
    if (v22 = 0 : Prop) then some 2 else
    (f_X4_isWithin a3 a2 9).bind fun v33 =>
    if (v33 = 0 : Prop) then some 2 else
    (f_X1_sizeOf 1 x a0).bind fun v47 =>
    if (6 ≤ v47 : Prop) then
      t_X4_offer_60 x a0 a1 a2 a3 0
    else
      t_X4_offer_60 x a0 a1 a2 a3 1
def t_X4_takeOff (x : XS) (a0 : Int32) (a1 : Int32) : Option (Nat) :=
    (f_X1_has 1 x a0 a1).bind fun v9 =>
    if (v9 = 0 : Prop) then some 1 else
    (f_X1_isOffered 1 x a0 a1).bind fun v24 =>
    if (v24 = 0 : Prop) then some 3 else
    none
def t_X4_base (x : XS) (a0 : Int32) (a1 : Int32) : Option (Nat) :=
    (f_X4_isKind a0).bind fun v1 =>
    if (v1 = 0 : Prop) then some 1 else
    (f_X4_isWithin a1 0 9999).bind fun v12 =>
    if (v12 = 0 : Prop) then some 2 else
    none
def t_X4_set (x : XS) (a0 : Int32) (a1 : Int32) : Option (Nat) :=
    (f_X4_isSetting a0).bind fun v1 =>
    if (v1 = 0 : Prop) then some 1 else
    (f_X4_isValueOf x a0 a1).bind fun v9 =>
    if (v9 = 0 : Prop) then some 2 else
    none
def t_X4_complain_44 (x : XS) (l1_44 : Int32) (l2_44 : Int32) (l3_44 : Int32) (t0_44 : Int32) : Option (Nat) :=
    if (t0_44 = 0 : Prop) then some 3 else
    none
def t_X4_complain (x : XS) (a0 : Int32) (a1 : Int32) (a2 : Int32) : Option (Nat) :=
    (f_X4_isKind a0).bind fun v1 =>
    if (v1 = 0 : Prop) then some 1 else
    (f_X4_isWithin a1 1 9).bind fun v11 =>
    if (v11 = 0 : Prop) then some 2 else
    (f_X4_isCustomer a2).bind fun v18 =>
    if (v18 = 0 : Prop) then some 2 else
    if (24 ≤ (x (1 + 7) 0) : Prop) then
      t_X4_complain_44 x a0 a1 a2 0
    else
      t_X4_complain_44 x a0 a1 a2 1
def t_X4_decide_41 (x : XS) (l1_41 : Int32) (l2_41 : Int32) (l3_41 : Int32) (t0_41 : Int32) : Option (Nat) :=
    if (t0_41 = 0 : Prop) then some 3 else
    none
def t_X4_decide (x : XS) (a0 : Int32) (a1 : Int32) (a2 : Int32) : Option (Nat) :=
    (f_X0_has 1 x a0).bind fun v8 =>
    if (v8 = 0 : Prop) then some 1 else
    (f_X4_isWithin a2 0 5).bind fun v17 =>
    if (v17 = 0 : Prop) then some 2 else
    (f_X3_againstDecision 1 x a0 a1 a2).bind fun v30 =>
    if (v30 = 0 : Prop) then
      t_X4_decide_41 x a0 a1 a2 1
    else
      t_X4_decide_41 x a0 a1 a2 0
def t_X4_appeal (x : XS) (a0 : Int32) : Option (Nat) :=
    (f_X0_has 1 x a0).bind fun v8 =>
    if (v8 = 0 : Prop) then some 1 else
    (f_X3_canBeAppealed 1 x a0).bind fun v19 =>
    if (v19 = 0 : Prop) then some 3 else
    none
def t_X4_judge_31 (x : XS) (l1_31 : Int32) (l2_31 : Int32) (t0_31 : Int32) : Option (Nat) :=
    if (t0_31 = 0 : Prop) then some 3 else
    none
def t_X4_judge (x : XS) (a0 : Int32) (a1 : Int32) : Option (Nat) :=
    (f_X0_has 1 x a0).bind fun v8 =>
    if (v8 = 0 : Prop) then some 1 else
    (f_X3_againstJudgement 1 x a0 a1).bind fun v20 =>
    if (v20 = 0 : Prop) then
      t_X4_judge_31 x a0 a1 1
    else
      t_X4_judge_31 x a0 a1 0
def t_X4_closeMonth_18 (x : XS) (t0_18 : Int32) : Option (Nat) :=
    if (t0_18 = 0 : Prop) then some 3 else
    none
def t_X4_closeMonth (x : XS) : Option (Nat) :=
    if (500 ≤ (x 1 7) : Prop) then
      t_X4_closeMonth_18 x 0
    else
      t_X4_closeMonth_18 x 1
def t_X4_append_25 (x : XS) (l1_25 : Int32) (t0_25 : Int32) : Option (Nat) :=
    if (t0_25 = 0 : Prop) then some 3 else
    none
def t_X4_append (x : XS) (a0 : Int32) : Option (Nat) :=
    (f_X4_isWithin a0 33 126).bind fun v5 =>
    if (v5 = 0 : Prop) then some 2 else
    if (60 ≤ (x 0 6) : Prop) then
      t_X4_append_25 x a0 0
    else
      t_X4_append_25 x a0 1
def t_X4_complainAll_63 (x : XS) (l1_63 : Int32) (t0_63 : Int32) : Option (Nat) :=
    if (t0_63 = 0 : Prop) then some 3 else
    none
def t_X4_complainAll_28 (x : XS) (t0_28 : Int32) : Option (Nat) :=
    if (t0_28 = 0 : Prop) then some 2 else
    (some ((((x 0 6) + 1) / 7))).bind fun v40 =>
    if (24 < ((x (1 + 7) 0) + v40) : Prop) then
      t_X4_complainAll_63 x v40 0
    else
      t_X4_complainAll_63 x v40 1
def t_X4_complainAll_27 (x : XS) : Option (Nat) :=
    t_X4_complainAll_28 x 0
def t_X4_complainAll (x : XS) : Option (Nat) :=
    (f_X4_firstError x).bind fun v1 =>
    if (v1 = (x 0 6) : Prop) then
      (if (((x 0 6) - (x 0 6) / 7 * 7) = 6 : Prop) then
        t_X4_complainAll_28 x 1
      else
        t_X4_complainAll_27 x )
    else
      t_X4_complainAll_27 x 
def t_X4_undo_12 (x : XS) (t0_12 : Int32) : Option (Nat) :=
    if (t0_12 = 0 : Prop) then some 3 else
    none
def t_X4_undo (x : XS) : Option (Nat) :=
    if ((x 0 3) ≤ 0 : Prop) then
      t_X4_undo_12 x 0
    else
      t_X4_undo_12 x 1
def t_X4_complaint (x : XS) (a0 : Int32) (a1 : Int32) : Option (Nat) :=
    (f_X0_has 1 x a0).bind fun v8 =>
    if (v8 = 0 : Prop) then some 1 else
    (f_X4_isWithin a1 0 10).bind fun v18 =>
    if (v18 = 0 : Prop) then some 2 else
    none
def t_X4_amends (x : XS) (a0 : Int32) (a1 : Int32) (a2 : Int32) : Option (Nat) :=
    (f_X1_has 1 x a0 a1).bind fun v9 =>
    if (v9 = 0 : Prop) then some 1 else
    (f_X4_isWithin a2 0 4).bind fun v18 =>
    if (v18 = 0 : Prop) then some 2 else
    none
def t_X4_precedent_19 (x : XS) (l1_19 : Int32) (l2_19 : Int32) (l3_19 : Int32) (t0_19 : Int32) : Option (Nat) :=
    if (t0_19 = 0 : Prop) then some 1 else
    (f_X4_isWithin l3_19 0 4).bind fun v25 =>
    if (v25 = 0 : Prop) then some 2 else
    none
def t_X4_precedent_18 (x : XS) (l1_18 : Int32) (l2_18 : Int32) (l3_18 : Int32) : Option (Nat) :=
    t_X4_precedent_19 x l1_18 l2_18 l3_18 0
def t_X4_precedent (x : XS) (a0 : Int32) (a1 : Int32) (a2 : Int32) : Option (Nat) :=
    (f_X4_isKind a0).bind fun v1 =>
    if (v1 = 0 : Prop) then
      t_X4_precedent_18 x a0 a1 a2
    else
      ((f_X4_isGroup a1).bind fun v8 =>
      if (v8 = 0 : Prop) then
        t_X4_precedent_18 x a0 a1 a2
      else
        t_X4_precedent_19 x a0 a1 a2 1)
def t_X4_kind (x : XS) (a0 : Int32) (a1 : Int32) : Option (Nat) :=
    (f_X4_isKind a0).bind fun v1 =>
    if (v1 = 0 : Prop) then some 1 else
    (f_X4_isWithin a1 0 7).bind fun v11 =>
    if (v11 = 0 : Prop) then some 2 else
    none
def t_X4_count (x : XS) (a0 : Int32) : Option (Nat) :=
    (f_X4_isWithin a0 0 11).bind fun v4 =>
    if (v4 = 0 : Prop) then some 2 else
    none
def t_X4_setting (x : XS) (a0 : Int32) : Option (Nat) :=
    (f_X4_isSetting a0).bind fun v1 =>
    if (v1 = 0 : Prop) then some 1 else
    none
def t_X4_ofCustomer (x : XS) (a0 : Int32) (a1 : Int32) : Option (Nat) :=
    (f_X4_isCustomer a0).bind fun v1 =>
    if (v1 = 0 : Prop) then some 1 else
    (f_X4_isWithin a1 0 23).bind fun v11 =>
    if (v11 = 0 : Prop) then some 2 else
    none
def t_X4_whyNot_33 (x : XS) (l1_33 : Int32) (l2_33 : Int32) (l3_33 : Int32) (t0_33 : Int32) : Option (Nat) :=
    if (t0_33 = 0 : Prop) then some 2 else
    none
def t_X4_whyNot_28 (x : XS) (l1_28 : Int32) (l2_28 : Int32) (l3_28 : Int32) : Option (Nat) :=
    t_X4_whyNot_33 x l1_28 l2_28 l3_28 1
def t_X4_whyNot (x : XS) (a0 : Int32) (a1 : Int32) (a2 : Int32) : Option (Nat) :=
    (f_X0_has 1 x a0).bind fun v8 =>
    if (v8 = 0 : Prop) then some 1 else
    if (a2 = (-1) : Prop) then
      t_X4_whyNot_28 x a0 a1 a2
    else
      ((f_X4_isWithin a2 0 5).bind fun v22 =>
      if (v22 = 0 : Prop) then
        t_X4_whyNot_33 x a0 a1 a2 0
      else
        t_X4_whyNot_28 x a0 a1 a2)
def t_X4_fair (x : XS) (a0 : Int32) : Option (Nat) :=
    (f_X0_has 1 x a0).bind fun v8 =>
    if (v8 = 0 : Prop) then some 1 else
    none
def t_X4_ifJudged (x : XS) (a0 : Int32) (a1 : Int32) (a2 : Int32) : Option (Nat) :=
    (f_X0_has 1 x a0).bind fun v8 =>
    if (v8 = 0 : Prop) then some 1 else
    (f_X4_isWithin a2 0 3).bind fun v17 =>
    if (v17 = 0 : Prop) then some 2 else
    none
set_option maxRecDepth 100000 in
set_option maxHeartbeats 4000000 in
theorem tp_X4_offer (l : Launch) (hst : l.stackTraces = false) (E : TE) (x m : XS) (g o : Int64) {a0 : Int32} {a1 : Int32} {a2 : Int32} {a3 : Int32} {k : Nat} (hf : t_X4_offer x a0 a1 a2 a3 = some k) : MT l E yX4_offer cX4_offer 5 (some .int) 7 [rf E 0, .int a0, .int a1, .int a2, .int a3] (Wd E x m g o) (exn k) := by
  unfold t_X4_offer at hf
  refine t_in (by decide) (Nat.le_of_ble_eq_true rfl) ?_
  intro p e s mi args below meth c H ls hx hb hlk htab hml hown hB hK hW hS hl
  have hl : lv_has ls 5 [(0, rf E 0), (1, .int a0), (2, .int a1), (3, .int a2), (4, .int a3)] := hl
  have J60 : ∀ (l1_60 : Int32) (l2_60 : Int32) (l3_60 : Int32) (l4_60 : Int32) (t0_60 : Int32) (H : Heap) (locs : List Loc) (ls : Array Slot), t_X4_offer_60 x l1_60 l2_60 l3_60 l4_60 t0_60 = some k → Wd E x m g o H → va_S (Ah E) s.heap H locs → lv_has ls 5 [(0, rf E 0), (1, .int l1_60), (2, .int l2_60), (3, .int l3_60), (4, .int l4_60)] → W p l e (rmT 7) s mi args below meth c H locs 0 0 (ET E below args s (Wd E x m g o) (exn k)) (F0 mi 60 ls [.int t0_60]) := by
    intro l1_60 l2_60 l3_60 l4_60 t0_60 H locs ls hf hW hS hl
    unfold t_X4_offer_60 at hf
    by_cases c60 : t0_60 = 0
    · rw [if_pos c60] at hf
      cases hf
      refine lv_nm (v := 0) c60.symm ?_
      exact c_T (As := [.int 0]) (rest := []) (t_X4_requireState l hst E x m g o) (kT_X4_52 hB ⟨Nat.le_of_ble_eq_true rfl, Nat.le_of_ble_eq_true rfl⟩) hx hb hml hown hB hK hW (fun _ h => h) hS ⟨Nat.le_of_ble_eq_true rfl, Nat.le_of_ble_eq_true rfl⟩ rfl hl.1 rfl (Nat.le_of_ble_eq_true rfl) htab hlk dX4_offer_60
    rw [if_neg c60] at hf
    refine c_S (As := [.int t0_60]) (st1 := []) (rest := []) (p_X4_requireState l E x m g o (by unfold f_X4_requireState; rw [if_neg c60])) (kc_X4_52 hB ⟨Nat.le_of_ble_eq_true rfl, Nat.le_of_ble_eq_true rfl⟩) hx hb hml hown hB hK hW hS ⟨Nat.zero_le _, Nat.zero_le _⟩ rfl hl.1 rfl (Nat.le_of_ble_eq_true rfl) rfl dX4_offer_60 (fun H locs hW hS => ?_)
    cases hf
  refine lv_iload_n hx hb dX4_offer_0 rfl (lv_at hl 1 rfl) ?_
  obtain ⟨v1, e1, hf⟩ := ob2 hf
  refine c_S (As := [.int a0]) (st1 := [.int v1]) (rest := []) (p_X4_isKind l E x m g o e1) (kc_X4_27 hB ⟨Nat.le_of_ble_eq_true rfl, Nat.le_of_ble_eq_true rfl⟩) hx hb hml hown hB hK hW hS ⟨Nat.zero_le _, Nat.zero_le _⟩ rfl hl.1 rfl (Nat.le_of_ble_eq_true rfl) rfl dX4_offer_1 (fun H locs hW hS => ?_)
  by_cases c4 : v1 = 0
  · rw [if_pos c4] at hf
    cases hf
    refine lv_nm (v := 0) c4.symm ?_
    exact c_T (As := [.int 0]) (rest := []) (t_X4_requireIndex l hst E x m g o) (kT_X4_31 hB ⟨Nat.le_of_ble_eq_true rfl, Nat.le_of_ble_eq_true rfl⟩) hx hb hml hown hB hK hW (fun _ h => h) hS ⟨Nat.le_of_ble_eq_true rfl, Nat.le_of_ble_eq_true rfl⟩ rfl hl.1 rfl (Nat.le_of_ble_eq_true rfl) htab hlk dX4_offer_4
  rw [if_neg c4] at hf
  refine c_S (As := [.int v1]) (st1 := []) (rest := []) (p_X4_requireIndex l E x m g o (by unfold f_X4_requireIndex; rw [if_neg c4])) (kc_X4_31 hB ⟨Nat.le_of_ble_eq_true rfl, Nat.le_of_ble_eq_true rfl⟩) hx hb hml hown hB hK hW hS ⟨Nat.zero_le _, Nat.zero_le _⟩ rfl hl.1 rfl (Nat.le_of_ble_eq_true rfl) rfl dX4_offer_4 (fun H locs hW hS => ?_)
  refine lv_iload_n hx hb dX4_offer_7 rfl (lv_at hl 2 rfl) ?_
  refine lv_iconst (v := 0) hx hb dX4_offer_8 (by decide) ?_
  refine lv_sipush (v := 999) hx hb dX4_offer_9 (by decide) ?_
  obtain ⟨v12, e12, hf⟩ := ob2 hf
  refine c_S (As := [.int a1, .int 0, .int 999]) (st1 := [.int v12]) (rest := []) (p_X4_isWithin l E x m g o e12) (kc_X4_35 hB ⟨Nat.le_of_ble_eq_true rfl, Nat.le_of_ble_eq_true rfl⟩) hx hb hml hown hB hK hW hS ⟨Nat.zero_le _, Nat.zero_le _⟩ rfl hl.1 rfl (Nat.le_of_ble_eq_true rfl) rfl dX4_offer_12 (fun H locs hW hS => ?_)
  by_cases c15 : v12 = 0
  · rw [if_pos c15] at hf
    cases hf
    refine lv_nm (v := 0) c15.symm ?_
    exact c_T (As := [.int 0]) (rest := []) (t_X4_requireArgument l hst E x m g o) (kT_X4_39 hB ⟨Nat.le_of_ble_eq_true rfl, Nat.le_of_ble_eq_true rfl⟩) hx hb hml hown hB hK hW (fun _ h => h) hS ⟨Nat.le_of_ble_eq_true rfl, Nat.le_of_ble_eq_true rfl⟩ rfl hl.1 rfl (Nat.le_of_ble_eq_true rfl) htab hlk dX4_offer_15
  rw [if_neg c15] at hf
  refine c_S (As := [.int v12]) (st1 := []) (rest := []) (p_X4_requireArgument l E x m g o (by unfold f_X4_requireArgument; rw [if_neg c15])) (kc_X4_39 hB ⟨Nat.le_of_ble_eq_true rfl, Nat.le_of_ble_eq_true rfl⟩) hx hb hml hown hB hK hW hS ⟨Nat.zero_le _, Nat.zero_le _⟩ rfl hl.1 rfl (Nat.le_of_ble_eq_true rfl) rfl dX4_offer_15 (fun H locs hW hS => ?_)
  refine lv_iload_n hx hb dX4_offer_18 rfl (lv_at hl 3 rfl) ?_
  refine lv_iconst (v := 1) hx hb dX4_offer_19 (by decide) ?_
  refine lv_bipush (v := 9) hx hb dX4_offer_20 (by decide) ?_
  obtain ⟨v22, e22, hf⟩ := ob2 hf
  refine c_S (As := [.int a2, .int 1, .int 9]) (st1 := [.int v22]) (rest := []) (p_X4_isWithin l E x m g o e22) (kc_X4_35 hB ⟨Nat.le_of_ble_eq_true rfl, Nat.le_of_ble_eq_true rfl⟩) hx hb hml hown hB hK hW hS ⟨Nat.zero_le _, Nat.zero_le _⟩ rfl hl.1 rfl (Nat.le_of_ble_eq_true rfl) rfl dX4_offer_22 (fun H locs hW hS => ?_)
  by_cases c25 : v22 = 0
  · rw [if_pos c25] at hf
    cases hf
    refine lv_nm (v := 0) c25.symm ?_
    exact c_T (As := [.int 0]) (rest := []) (t_X4_requireArgument l hst E x m g o) (kT_X4_39 hB ⟨Nat.le_of_ble_eq_true rfl, Nat.le_of_ble_eq_true rfl⟩) hx hb hml hown hB hK hW (fun _ h => h) hS ⟨Nat.le_of_ble_eq_true rfl, Nat.le_of_ble_eq_true rfl⟩ rfl hl.1 rfl (Nat.le_of_ble_eq_true rfl) htab hlk dX4_offer_25
  rw [if_neg c25] at hf
  refine c_S (As := [.int v22]) (st1 := []) (rest := []) (p_X4_requireArgument l E x m g o (by unfold f_X4_requireArgument; rw [if_neg c25])) (kc_X4_39 hB ⟨Nat.le_of_ble_eq_true rfl, Nat.le_of_ble_eq_true rfl⟩) hx hb hml hown hB hK hW hS ⟨Nat.zero_le _, Nat.zero_le _⟩ rfl hl.1 rfl (Nat.le_of_ble_eq_true rfl) rfl dX4_offer_25 (fun H locs hW hS => ?_)
  refine lv_iload hx hb dX4_offer_28 (lv_at hl 4 rfl) ?_
  refine lv_iload_n hx hb dX4_offer_30 rfl (lv_at hl 3 rfl) ?_
  refine lv_bipush (v := 9) hx hb dX4_offer_31 (by decide) ?_
  obtain ⟨v33, e33, hf⟩ := ob2 hf
  refine c_S (As := [.int a3, .int a2, .int 9]) (st1 := [.int v33]) (rest := []) (p_X4_isWithin l E x m g o e33) (kc_X4_35 hB ⟨Nat.le_of_ble_eq_true rfl, Nat.le_of_ble_eq_true rfl⟩) hx hb hml hown hB hK hW hS ⟨Nat.zero_le _, Nat.zero_le _⟩ rfl hl.1 rfl (Nat.le_of_ble_eq_true rfl) rfl dX4_offer_33 (fun H locs hW hS => ?_)
  by_cases c36 : v33 = 0
  · rw [if_pos c36] at hf
    cases hf
    refine lv_nm (v := 0) c36.symm ?_
    exact c_T (As := [.int 0]) (rest := []) (t_X4_requireArgument l hst E x m g o) (kT_X4_39 hB ⟨Nat.le_of_ble_eq_true rfl, Nat.le_of_ble_eq_true rfl⟩) hx hb hml hown hB hK hW (fun _ h => h) hS ⟨Nat.le_of_ble_eq_true rfl, Nat.le_of_ble_eq_true rfl⟩ rfl hl.1 rfl (Nat.le_of_ble_eq_true rfl) htab hlk dX4_offer_36
  rw [if_neg c36] at hf
  refine c_S (As := [.int v33]) (st1 := []) (rest := []) (p_X4_requireArgument l E x m g o (by unfold f_X4_requireArgument; rw [if_neg c36])) (kc_X4_39 hB ⟨Nat.le_of_ble_eq_true rfl, Nat.le_of_ble_eq_true rfl⟩) hx hb hml hown hB hK hW hS ⟨Nat.zero_le _, Nat.zero_le _⟩ rfl hl.1 rfl (Nat.le_of_ble_eq_true rfl) rfl dX4_offer_36 (fun H locs hW hS => ?_)
  refine lv_aload_n hx hb dX4_offer_39 rfl (lv_at hl 0 rfl) ?_
  refine gf_X4_10 hx hb hB hK hown hW dX4_offer_40 ?_
  refine gf_X4_42 hx hb hB hK hown hW IsB1 dX4_offer_43 ?_
  refine lv_iload_n hx hb dX4_offer_46 rfl (lv_at hl 1 rfl) ?_
  obtain ⟨v47, e47, hf⟩ := ob2 hf
  refine c_V (As := [.int a0]) (st1 := [.int v47]) (rest := []) (p_X1_sizeOf l E IsB1 x m g o e47) (kc_X4_46 hB ⟨Nat.le_of_ble_eq_true rfl, Nat.le_of_ble_eq_true rfl⟩) (Wd.rec hK hW (IsB1.l8 (j := 1) (by decide)) (cB_1 IsB1) (ci := 1) rfl) hx hb hml hown hB hK hW hS ⟨Nat.zero_le _, Nat.zero_le _⟩ rfl hl.1 rfl (Nat.le_of_ble_eq_true rfl) rfl dX4_offer_47 (fun H locs hW hS => ?_)
  refine lv_bipush (v := 6) hx hb dX4_offer_50 (by decide) ?_
  refine lv_icmp_ge (tgt := 59) hx hb dX4_offer_52 (by decide) (fun c52 => ?_) (fun c52 => ?_)
  · rw [if_pos c52] at hf
    refine lv_iconst (v := 0) hx hb dX4_offer_59 (by decide) ?_
    exact J60 a0 a1 a2 a3 0 _ _ _ hf hW hS (lv_sub hl [0, 1, 2, 3, 4] rfl)
  · rw [if_neg c52] at hf
    refine lv_iconst (v := 1) hx hb dX4_offer_55 (by decide) ?_
    refine lv_goto (tgt := 60) hx hb dX4_offer_56 (by decide) ?_
    exact J60 a0 a1 a2 a3 1 _ _ _ hf hW hS (lv_sub hl [0, 1, 2, 3, 4] rfl)
set_option maxRecDepth 100000 in
set_option maxHeartbeats 4000000 in
theorem tp_X4_takeOff (l : Launch) (hst : l.stackTraces = false) (E : TE) (x m : XS) (g o : Int64) {a0 : Int32} {a1 : Int32} {k : Nat} (hf : t_X4_takeOff x a0 a1 = some k) : MT l E yX4_takeOff cX4_takeOff 3 (some .int) 7 [rf E 0, .int a0, .int a1] (Wd E x m g o) (exn k) := by
  unfold t_X4_takeOff at hf
  refine t_in (by decide) (Nat.le_of_ble_eq_true rfl) ?_
  intro p e s mi args below meth c H ls hx hb hlk htab hml hown hB hK hW hS hl
  have hl : lv_has ls 3 [(0, rf E 0), (1, .int a0), (2, .int a1)] := hl
  refine lv_aload_n hx hb dX4_takeOff_0 rfl (lv_at hl 0 rfl) ?_
  refine gf_X4_10 hx hb hB hK hown hW dX4_takeOff_1 ?_
  refine gf_X4_42 hx hb hB hK hown hW IsB1 dX4_takeOff_4 ?_
  refine lv_iload_n hx hb dX4_takeOff_7 rfl (lv_at hl 1 rfl) ?_
  refine lv_iload_n hx hb dX4_takeOff_8 rfl (lv_at hl 2 rfl) ?_
  obtain ⟨v9, e9, hf⟩ := ob2 hf
  refine c_V (As := [.int a0, .int a1]) (st1 := [.int v9]) (rest := []) (p_X1_has l E IsB1 x m g o e9) (kc_X4_62 hB ⟨Nat.le_of_ble_eq_true rfl, Nat.le_of_ble_eq_true rfl⟩) (Wd.rec hK hW (IsB1.l8 (j := 1) (by decide)) (cB_1 IsB1) (ci := 1) rfl) hx hb hml hown hB hK hW hS ⟨Nat.zero_le _, Nat.zero_le _⟩ rfl hl.1 rfl (Nat.le_of_ble_eq_true rfl) rfl dX4_takeOff_9 (fun H locs hW hS => ?_)
  by_cases c12 : v9 = 0
  · rw [if_pos c12] at hf
    cases hf
    refine lv_nm (v := 0) c12.symm ?_
    exact c_T (As := [.int 0]) (rest := []) (t_X4_requireIndex l hst E x m g o) (kT_X4_31 hB ⟨Nat.le_of_ble_eq_true rfl, Nat.le_of_ble_eq_true rfl⟩) hx hb hml hown hB hK hW (fun _ h => h) hS ⟨Nat.le_of_ble_eq_true rfl, Nat.le_of_ble_eq_true rfl⟩ rfl hl.1 rfl (Nat.le_of_ble_eq_true rfl) htab hlk dX4_takeOff_12
  rw [if_neg c12] at hf
  refine c_S (As := [.int v9]) (st1 := []) (rest := []) (p_X4_requireIndex l E x m g o (by unfold f_X4_requireIndex; rw [if_neg c12])) (kc_X4_31 hB ⟨Nat.le_of_ble_eq_true rfl, Nat.le_of_ble_eq_true rfl⟩) hx hb hml hown hB hK hW hS ⟨Nat.zero_le _, Nat.zero_le _⟩ rfl hl.1 rfl (Nat.le_of_ble_eq_true rfl) rfl dX4_takeOff_12 (fun H locs hW hS => ?_)
  refine lv_aload_n hx hb dX4_takeOff_15 rfl (lv_at hl 0 rfl) ?_
  refine gf_X4_10 hx hb hB hK hown hW dX4_takeOff_16 ?_
  refine gf_X4_42 hx hb hB hK hown hW IsB1 dX4_takeOff_19 ?_
  refine lv_iload_n hx hb dX4_takeOff_22 rfl (lv_at hl 1 rfl) ?_
  refine lv_iload_n hx hb dX4_takeOff_23 rfl (lv_at hl 2 rfl) ?_
  obtain ⟨v24, e24, hf⟩ := ob2 hf
  refine c_V (As := [.int a0, .int a1]) (st1 := [.int v24]) (rest := []) (p_X1_isOffered l E IsB1 x m g o e24) (kc_X4_66 hB ⟨Nat.le_of_ble_eq_true rfl, Nat.le_of_ble_eq_true rfl⟩) (Wd.rec hK hW (IsB1.l8 (j := 1) (by decide)) (cB_1 IsB1) (ci := 1) rfl) hx hb hml hown hB hK hW hS ⟨Nat.zero_le _, Nat.zero_le _⟩ rfl hl.1 rfl (Nat.le_of_ble_eq_true rfl) rfl dX4_takeOff_24 (fun H locs hW hS => ?_)
  by_cases c27 : v24 = 0
  · rw [if_pos c27] at hf
    cases hf
    refine lv_nm (v := 0) c27.symm ?_
    exact c_T (As := [.int 0]) (rest := []) (t_X4_requireState l hst E x m g o) (kT_X4_52 hB ⟨Nat.le_of_ble_eq_true rfl, Nat.le_of_ble_eq_true rfl⟩) hx hb hml hown hB hK hW (fun _ h => h) hS ⟨Nat.le_of_ble_eq_true rfl, Nat.le_of_ble_eq_true rfl⟩ rfl hl.1 rfl (Nat.le_of_ble_eq_true rfl) htab hlk dX4_takeOff_27
  rw [if_neg c27] at hf
  refine c_S (As := [.int v24]) (st1 := []) (rest := []) (p_X4_requireState l E x m g o (by unfold f_X4_requireState; rw [if_neg c27])) (kc_X4_52 hB ⟨Nat.le_of_ble_eq_true rfl, Nat.le_of_ble_eq_true rfl⟩) hx hb hml hown hB hK hW hS ⟨Nat.zero_le _, Nat.zero_le _⟩ rfl hl.1 rfl (Nat.le_of_ble_eq_true rfl) rfl dX4_takeOff_27 (fun H locs hW hS => ?_)
  cases hf
set_option maxRecDepth 100000 in
set_option maxHeartbeats 4000000 in
theorem tp_X4_base (l : Launch) (hst : l.stackTraces = false) (E : TE) (x m : XS) (g o : Int64) {a0 : Int32} {a1 : Int32} {k : Nat} (hf : t_X4_base x a0 a1 = some k) : MT l E yX4_base cX4_base 3 (some .int) 7 [rf E 0, .int a0, .int a1] (Wd E x m g o) (exn k) := by
  unfold t_X4_base at hf
  refine t_in (by decide) (Nat.le_of_ble_eq_true rfl) ?_
  intro p e s mi args below meth c H ls hx hb hlk htab hml hown hB hK hW hS hl
  have hl : lv_has ls 3 [(0, rf E 0), (1, .int a0), (2, .int a1)] := hl
  refine lv_iload_n hx hb dX4_base_0 rfl (lv_at hl 1 rfl) ?_
  obtain ⟨v1, e1, hf⟩ := ob2 hf
  refine c_S (As := [.int a0]) (st1 := [.int v1]) (rest := []) (p_X4_isKind l E x m g o e1) (kc_X4_27 hB ⟨Nat.le_of_ble_eq_true rfl, Nat.le_of_ble_eq_true rfl⟩) hx hb hml hown hB hK hW hS ⟨Nat.zero_le _, Nat.zero_le _⟩ rfl hl.1 rfl (Nat.le_of_ble_eq_true rfl) rfl dX4_base_1 (fun H locs hW hS => ?_)
  by_cases c4 : v1 = 0
  · rw [if_pos c4] at hf
    cases hf
    refine lv_nm (v := 0) c4.symm ?_
    exact c_T (As := [.int 0]) (rest := []) (t_X4_requireIndex l hst E x m g o) (kT_X4_31 hB ⟨Nat.le_of_ble_eq_true rfl, Nat.le_of_ble_eq_true rfl⟩) hx hb hml hown hB hK hW (fun _ h => h) hS ⟨Nat.le_of_ble_eq_true rfl, Nat.le_of_ble_eq_true rfl⟩ rfl hl.1 rfl (Nat.le_of_ble_eq_true rfl) htab hlk dX4_base_4
  rw [if_neg c4] at hf
  refine c_S (As := [.int v1]) (st1 := []) (rest := []) (p_X4_requireIndex l E x m g o (by unfold f_X4_requireIndex; rw [if_neg c4])) (kc_X4_31 hB ⟨Nat.le_of_ble_eq_true rfl, Nat.le_of_ble_eq_true rfl⟩) hx hb hml hown hB hK hW hS ⟨Nat.zero_le _, Nat.zero_le _⟩ rfl hl.1 rfl (Nat.le_of_ble_eq_true rfl) rfl dX4_base_4 (fun H locs hW hS => ?_)
  refine lv_iload_n hx hb dX4_base_7 rfl (lv_at hl 2 rfl) ?_
  refine lv_iconst (v := 0) hx hb dX4_base_8 (by decide) ?_
  refine lv_sipush (v := 9999) hx hb dX4_base_9 (by decide) ?_
  obtain ⟨v12, e12, hf⟩ := ob2 hf
  refine c_S (As := [.int a1, .int 0, .int 9999]) (st1 := [.int v12]) (rest := []) (p_X4_isWithin l E x m g o e12) (kc_X4_35 hB ⟨Nat.le_of_ble_eq_true rfl, Nat.le_of_ble_eq_true rfl⟩) hx hb hml hown hB hK hW hS ⟨Nat.zero_le _, Nat.zero_le _⟩ rfl hl.1 rfl (Nat.le_of_ble_eq_true rfl) rfl dX4_base_12 (fun H locs hW hS => ?_)
  by_cases c15 : v12 = 0
  · rw [if_pos c15] at hf
    cases hf
    refine lv_nm (v := 0) c15.symm ?_
    exact c_T (As := [.int 0]) (rest := []) (t_X4_requireArgument l hst E x m g o) (kT_X4_39 hB ⟨Nat.le_of_ble_eq_true rfl, Nat.le_of_ble_eq_true rfl⟩) hx hb hml hown hB hK hW (fun _ h => h) hS ⟨Nat.le_of_ble_eq_true rfl, Nat.le_of_ble_eq_true rfl⟩ rfl hl.1 rfl (Nat.le_of_ble_eq_true rfl) htab hlk dX4_base_15
  rw [if_neg c15] at hf
  refine c_S (As := [.int v12]) (st1 := []) (rest := []) (p_X4_requireArgument l E x m g o (by unfold f_X4_requireArgument; rw [if_neg c15])) (kc_X4_39 hB ⟨Nat.le_of_ble_eq_true rfl, Nat.le_of_ble_eq_true rfl⟩) hx hb hml hown hB hK hW hS ⟨Nat.zero_le _, Nat.zero_le _⟩ rfl hl.1 rfl (Nat.le_of_ble_eq_true rfl) rfl dX4_base_15 (fun H locs hW hS => ?_)
  cases hf
set_option maxRecDepth 100000 in
set_option maxHeartbeats 4000000 in
theorem tp_X4_set (l : Launch) (hst : l.stackTraces = false) (E : TE) (x m : XS) (g o : Int64) {a0 : Int32} {a1 : Int32} {k : Nat} (hf : t_X4_set x a0 a1 = some k) : MT l E yX4_set cX4_set 3 (some .int) 7 [rf E 0, .int a0, .int a1] (Wd E x m g o) (exn k) := by
  unfold t_X4_set at hf
  refine t_in (by decide) (Nat.le_of_ble_eq_true rfl) ?_
  intro p e s mi args below meth c H ls hx hb hlk htab hml hown hB hK hW hS hl
  have hl : lv_has ls 3 [(0, rf E 0), (1, .int a0), (2, .int a1)] := hl
  refine lv_iload_n hx hb dX4_set_0 rfl (lv_at hl 1 rfl) ?_
  obtain ⟨v1, e1, hf⟩ := ob2 hf
  refine c_S (As := [.int a0]) (st1 := [.int v1]) (rest := []) (p_X4_isSetting l E x m g o e1) (kc_X4_76 hB ⟨Nat.le_of_ble_eq_true rfl, Nat.le_of_ble_eq_true rfl⟩) hx hb hml hown hB hK hW hS ⟨Nat.zero_le _, Nat.zero_le _⟩ rfl hl.1 rfl (Nat.le_of_ble_eq_true rfl) rfl dX4_set_1 (fun H locs hW hS => ?_)
  by_cases c4 : v1 = 0
  · rw [if_pos c4] at hf
    cases hf
    refine lv_nm (v := 0) c4.symm ?_
    exact c_T (As := [.int 0]) (rest := []) (t_X4_requireIndex l hst E x m g o) (kT_X4_31 hB ⟨Nat.le_of_ble_eq_true rfl, Nat.le_of_ble_eq_true rfl⟩) hx hb hml hown hB hK hW (fun _ h => h) hS ⟨Nat.le_of_ble_eq_true rfl, Nat.le_of_ble_eq_true rfl⟩ rfl hl.1 rfl (Nat.le_of_ble_eq_true rfl) htab hlk dX4_set_4
  rw [if_neg c4] at hf
  refine c_S (As := [.int v1]) (st1 := []) (rest := []) (p_X4_requireIndex l E x m g o (by unfold f_X4_requireIndex; rw [if_neg c4])) (kc_X4_31 hB ⟨Nat.le_of_ble_eq_true rfl, Nat.le_of_ble_eq_true rfl⟩) hx hb hml hown hB hK hW hS ⟨Nat.zero_le _, Nat.zero_le _⟩ rfl hl.1 rfl (Nat.le_of_ble_eq_true rfl) rfl dX4_set_4 (fun H locs hW hS => ?_)
  refine lv_iload_n hx hb dX4_set_7 rfl (lv_at hl 1 rfl) ?_
  refine lv_iload_n hx hb dX4_set_8 rfl (lv_at hl 2 rfl) ?_
  obtain ⟨v9, e9, hf⟩ := ob2 hf
  refine c_S (As := [.int a0, .int a1]) (st1 := [.int v9]) (rest := []) (p_X4_isValueOf l E x m g o e9) (kc_X4_79 hB ⟨Nat.le_of_ble_eq_true rfl, Nat.le_of_ble_eq_true rfl⟩) hx hb hml hown hB hK hW hS ⟨Nat.zero_le _, Nat.zero_le _⟩ rfl hl.1 rfl (Nat.le_of_ble_eq_true rfl) rfl dX4_set_9 (fun H locs hW hS => ?_)
  by_cases c12 : v9 = 0
  · rw [if_pos c12] at hf
    cases hf
    refine lv_nm (v := 0) c12.symm ?_
    exact c_T (As := [.int 0]) (rest := []) (t_X4_requireArgument l hst E x m g o) (kT_X4_39 hB ⟨Nat.le_of_ble_eq_true rfl, Nat.le_of_ble_eq_true rfl⟩) hx hb hml hown hB hK hW (fun _ h => h) hS ⟨Nat.le_of_ble_eq_true rfl, Nat.le_of_ble_eq_true rfl⟩ rfl hl.1 rfl (Nat.le_of_ble_eq_true rfl) htab hlk dX4_set_12
  rw [if_neg c12] at hf
  refine c_S (As := [.int v9]) (st1 := []) (rest := []) (p_X4_requireArgument l E x m g o (by unfold f_X4_requireArgument; rw [if_neg c12])) (kc_X4_39 hB ⟨Nat.le_of_ble_eq_true rfl, Nat.le_of_ble_eq_true rfl⟩) hx hb hml hown hB hK hW hS ⟨Nat.zero_le _, Nat.zero_le _⟩ rfl hl.1 rfl (Nat.le_of_ble_eq_true rfl) rfl dX4_set_12 (fun H locs hW hS => ?_)
  cases hf
set_option maxRecDepth 100000 in
set_option maxHeartbeats 4000000 in
theorem tp_X4_complain (l : Launch) (hst : l.stackTraces = false) (E : TE) (x m : XS) (g o : Int64) {a0 : Int32} {a1 : Int32} {a2 : Int32} {k : Nat} (hf : t_X4_complain x a0 a1 a2 = some k) : MT l E yX4_complain cX4_complain 4 (some .int) 7 [rf E 0, .int a0, .int a1, .int a2] (Wd E x m g o) (exn k) := by
  unfold t_X4_complain at hf
  refine t_in (by decide) (Nat.le_of_ble_eq_true rfl) ?_
  intro p e s mi args below meth c H ls hx hb hlk htab hml hown hB hK hW hS hl
  have hl : lv_has ls 4 [(0, rf E 0), (1, .int a0), (2, .int a1), (3, .int a2)] := hl
  have J44 : ∀ (l1_44 : Int32) (l2_44 : Int32) (l3_44 : Int32) (t0_44 : Int32) (H : Heap) (locs : List Loc) (ls : Array Slot), t_X4_complain_44 x l1_44 l2_44 l3_44 t0_44 = some k → Wd E x m g o H → va_S (Ah E) s.heap H locs → lv_has ls 4 [(0, rf E 0), (1, .int l1_44), (2, .int l2_44), (3, .int l3_44)] → W p l e (rmT 7) s mi args below meth c H locs 0 0 (ET E below args s (Wd E x m g o) (exn k)) (F0 mi 44 ls [.int t0_44]) := by
    intro l1_44 l2_44 l3_44 t0_44 H locs ls hf hW hS hl
    unfold t_X4_complain_44 at hf
    by_cases c44 : t0_44 = 0
    · rw [if_pos c44] at hf
      cases hf
      refine lv_nm (v := 0) c44.symm ?_
      exact c_T (As := [.int 0]) (rest := []) (t_X4_requireState l hst E x m g o) (kT_X4_52 hB ⟨Nat.le_of_ble_eq_true rfl, Nat.le_of_ble_eq_true rfl⟩) hx hb hml hown hB hK hW (fun _ h => h) hS ⟨Nat.le_of_ble_eq_true rfl, Nat.le_of_ble_eq_true rfl⟩ rfl hl.1 rfl (Nat.le_of_ble_eq_true rfl) htab hlk dX4_complain_44
    rw [if_neg c44] at hf
    refine c_S (As := [.int t0_44]) (st1 := []) (rest := []) (p_X4_requireState l E x m g o (by unfold f_X4_requireState; rw [if_neg c44])) (kc_X4_52 hB ⟨Nat.le_of_ble_eq_true rfl, Nat.le_of_ble_eq_true rfl⟩) hx hb hml hown hB hK hW hS ⟨Nat.zero_le _, Nat.zero_le _⟩ rfl hl.1 rfl (Nat.le_of_ble_eq_true rfl) rfl dX4_complain_44 (fun H locs hW hS => ?_)
    cases hf
  refine lv_iload_n hx hb dX4_complain_0 rfl (lv_at hl 1 rfl) ?_
  obtain ⟨v1, e1, hf⟩ := ob2 hf
  refine c_S (As := [.int a0]) (st1 := [.int v1]) (rest := []) (p_X4_isKind l E x m g o e1) (kc_X4_27 hB ⟨Nat.le_of_ble_eq_true rfl, Nat.le_of_ble_eq_true rfl⟩) hx hb hml hown hB hK hW hS ⟨Nat.zero_le _, Nat.zero_le _⟩ rfl hl.1 rfl (Nat.le_of_ble_eq_true rfl) rfl dX4_complain_1 (fun H locs hW hS => ?_)
  by_cases c4 : v1 = 0
  · rw [if_pos c4] at hf
    cases hf
    refine lv_nm (v := 0) c4.symm ?_
    exact c_T (As := [.int 0]) (rest := []) (t_X4_requireIndex l hst E x m g o) (kT_X4_31 hB ⟨Nat.le_of_ble_eq_true rfl, Nat.le_of_ble_eq_true rfl⟩) hx hb hml hown hB hK hW (fun _ h => h) hS ⟨Nat.le_of_ble_eq_true rfl, Nat.le_of_ble_eq_true rfl⟩ rfl hl.1 rfl (Nat.le_of_ble_eq_true rfl) htab hlk dX4_complain_4
  rw [if_neg c4] at hf
  refine c_S (As := [.int v1]) (st1 := []) (rest := []) (p_X4_requireIndex l E x m g o (by unfold f_X4_requireIndex; rw [if_neg c4])) (kc_X4_31 hB ⟨Nat.le_of_ble_eq_true rfl, Nat.le_of_ble_eq_true rfl⟩) hx hb hml hown hB hK hW hS ⟨Nat.zero_le _, Nat.zero_le _⟩ rfl hl.1 rfl (Nat.le_of_ble_eq_true rfl) rfl dX4_complain_4 (fun H locs hW hS => ?_)
  refine lv_iload_n hx hb dX4_complain_7 rfl (lv_at hl 2 rfl) ?_
  refine lv_iconst (v := 1) hx hb dX4_complain_8 (by decide) ?_
  refine lv_bipush (v := 9) hx hb dX4_complain_9 (by decide) ?_
  obtain ⟨v11, e11, hf⟩ := ob2 hf
  refine c_S (As := [.int a1, .int 1, .int 9]) (st1 := [.int v11]) (rest := []) (p_X4_isWithin l E x m g o e11) (kc_X4_35 hB ⟨Nat.le_of_ble_eq_true rfl, Nat.le_of_ble_eq_true rfl⟩) hx hb hml hown hB hK hW hS ⟨Nat.zero_le _, Nat.zero_le _⟩ rfl hl.1 rfl (Nat.le_of_ble_eq_true rfl) rfl dX4_complain_11 (fun H locs hW hS => ?_)
  by_cases c14 : v11 = 0
  · rw [if_pos c14] at hf
    cases hf
    refine lv_nm (v := 0) c14.symm ?_
    exact c_T (As := [.int 0]) (rest := []) (t_X4_requireArgument l hst E x m g o) (kT_X4_39 hB ⟨Nat.le_of_ble_eq_true rfl, Nat.le_of_ble_eq_true rfl⟩) hx hb hml hown hB hK hW (fun _ h => h) hS ⟨Nat.le_of_ble_eq_true rfl, Nat.le_of_ble_eq_true rfl⟩ rfl hl.1 rfl (Nat.le_of_ble_eq_true rfl) htab hlk dX4_complain_14
  rw [if_neg c14] at hf
  refine c_S (As := [.int v11]) (st1 := []) (rest := []) (p_X4_requireArgument l E x m g o (by unfold f_X4_requireArgument; rw [if_neg c14])) (kc_X4_39 hB ⟨Nat.le_of_ble_eq_true rfl, Nat.le_of_ble_eq_true rfl⟩) hx hb hml hown hB hK hW hS ⟨Nat.zero_le _, Nat.zero_le _⟩ rfl hl.1 rfl (Nat.le_of_ble_eq_true rfl) rfl dX4_complain_14 (fun H locs hW hS => ?_)
  refine lv_iload_n hx hb dX4_complain_17 rfl (lv_at hl 3 rfl) ?_
  obtain ⟨v18, e18, hf⟩ := ob2 hf
  refine c_S (As := [.int a2]) (st1 := [.int v18]) (rest := []) (p_X4_isCustomer l E x m g o e18) (kc_X4_85 hB ⟨Nat.le_of_ble_eq_true rfl, Nat.le_of_ble_eq_true rfl⟩) hx hb hml hown hB hK hW hS ⟨Nat.zero_le _, Nat.zero_le _⟩ rfl hl.1 rfl (Nat.le_of_ble_eq_true rfl) rfl dX4_complain_18 (fun H locs hW hS => ?_)
  by_cases c21 : v18 = 0
  · rw [if_pos c21] at hf
    cases hf
    refine lv_nm (v := 0) c21.symm ?_
    exact c_T (As := [.int 0]) (rest := []) (t_X4_requireArgument l hst E x m g o) (kT_X4_39 hB ⟨Nat.le_of_ble_eq_true rfl, Nat.le_of_ble_eq_true rfl⟩) hx hb hml hown hB hK hW (fun _ h => h) hS ⟨Nat.le_of_ble_eq_true rfl, Nat.le_of_ble_eq_true rfl⟩ rfl hl.1 rfl (Nat.le_of_ble_eq_true rfl) htab hlk dX4_complain_21
  rw [if_neg c21] at hf
  refine c_S (As := [.int v18]) (st1 := []) (rest := []) (p_X4_requireArgument l E x m g o (by unfold f_X4_requireArgument; rw [if_neg c21])) (kc_X4_39 hB ⟨Nat.le_of_ble_eq_true rfl, Nat.le_of_ble_eq_true rfl⟩) hx hb hml hown hB hK hW hS ⟨Nat.zero_le _, Nat.zero_le _⟩ rfl hl.1 rfl (Nat.le_of_ble_eq_true rfl) rfl dX4_complain_21 (fun H locs hW hS => ?_)
  refine lv_aload_n hx hb dX4_complain_24 rfl (lv_at hl 0 rfl) ?_
  refine gf_X4_10 hx hb hB hK hown hW dX4_complain_25 ?_
  refine gf_X4_88 hx hb hB hK hown hW IsB1 dX4_complain_28 ?_
  refine gf_X4_92 hx hb hB hK hown hW IsB1 dX4_complain_31 ?_
  refine lv_bipush (v := 24) hx hb dX4_complain_34 (by decide) ?_
  refine lv_icmp_ge (tgt := 43) hx hb dX4_complain_36 (by decide) (fun c36 => ?_) (fun c36 => ?_)
  · rw [if_pos c36] at hf
    refine lv_iconst (v := 0) hx hb dX4_complain_43 (by decide) ?_
    exact J44 a0 a1 a2 0 _ _ _ hf hW hS (lv_sub hl [0, 1, 2, 3] rfl)
  · rw [if_neg c36] at hf
    refine lv_iconst (v := 1) hx hb dX4_complain_39 (by decide) ?_
    refine lv_goto (tgt := 44) hx hb dX4_complain_40 (by decide) ?_
    exact J44 a0 a1 a2 1 _ _ _ hf hW hS (lv_sub hl [0, 1, 2, 3] rfl)
set_option maxRecDepth 100000 in
set_option maxHeartbeats 4000000 in
theorem tp_X4_decide (l : Launch) (hst : l.stackTraces = false) (E : TE) (x m : XS) (g o : Int64) {a0 : Int32} {a1 : Int32} {a2 : Int32} {k : Nat} (hf : t_X4_decide x a0 a1 a2 = some k) : MT l E yX4_decide cX4_decide 4 (some .int) 7 [rf E 0, .int a0, .int a1, .int a2] (Wd E x m g o) (exn k) := by
  unfold t_X4_decide at hf
  refine t_in (by decide) (Nat.le_of_ble_eq_true rfl) ?_
  intro p e s mi args below meth c H ls hx hb hlk htab hml hown hB hK hW hS hl
  have hl : lv_has ls 4 [(0, rf E 0), (1, .int a0), (2, .int a1), (3, .int a2)] := hl
  have J41 : ∀ (l1_41 : Int32) (l2_41 : Int32) (l3_41 : Int32) (t0_41 : Int32) (H : Heap) (locs : List Loc) (ls : Array Slot), t_X4_decide_41 x l1_41 l2_41 l3_41 t0_41 = some k → Wd E x m g o H → va_S (Ah E) s.heap H locs → lv_has ls 4 [(0, rf E 0), (1, .int l1_41), (2, .int l2_41), (3, .int l3_41)] → W p l e (rmT 7) s mi args below meth c H locs 0 0 (ET E below args s (Wd E x m g o) (exn k)) (F0 mi 41 ls [.int t0_41]) := by
    intro l1_41 l2_41 l3_41 t0_41 H locs ls hf hW hS hl
    unfold t_X4_decide_41 at hf
    by_cases c41 : t0_41 = 0
    · rw [if_pos c41] at hf
      cases hf
      refine lv_nm (v := 0) c41.symm ?_
      exact c_T (As := [.int 0]) (rest := []) (t_X4_requireState l hst E x m g o) (kT_X4_52 hB ⟨Nat.le_of_ble_eq_true rfl, Nat.le_of_ble_eq_true rfl⟩) hx hb hml hown hB hK hW (fun _ h => h) hS ⟨Nat.le_of_ble_eq_true rfl, Nat.le_of_ble_eq_true rfl⟩ rfl hl.1 rfl (Nat.le_of_ble_eq_true rfl) htab hlk dX4_decide_41
    rw [if_neg c41] at hf
    refine c_S (As := [.int t0_41]) (st1 := []) (rest := []) (p_X4_requireState l E x m g o (by unfold f_X4_requireState; rw [if_neg c41])) (kc_X4_52 hB ⟨Nat.le_of_ble_eq_true rfl, Nat.le_of_ble_eq_true rfl⟩) hx hb hml hown hB hK hW hS ⟨Nat.zero_le _, Nat.zero_le _⟩ rfl hl.1 rfl (Nat.le_of_ble_eq_true rfl) rfl dX4_decide_41 (fun H locs hW hS => ?_)
    cases hf
  refine lv_aload_n hx hb dX4_decide_0 rfl (lv_at hl 0 rfl) ?_
  refine gf_X4_10 hx hb hB hK hown hW dX4_decide_1 ?_
  refine gf_X4_88 hx hb hB hK hown hW IsB1 dX4_decide_4 ?_
  refine lv_iload_n hx hb dX4_decide_7 rfl (lv_at hl 1 rfl) ?_
  obtain ⟨v8, e8, hf⟩ := ob2 hf
  refine c_V (As := [.int a0]) (st1 := [.int v8]) (rest := []) (p_X0_has l E IsB1 x m g o e8) (kc_X4_101 hB ⟨Nat.le_of_ble_eq_true rfl, Nat.le_of_ble_eq_true rfl⟩) (Wd.rec hK hW (IsB1.l8 (j := 7) (by decide)) (cB_7 IsB1) (ci := 0) rfl) hx hb hml hown hB hK hW hS ⟨Nat.zero_le _, Nat.zero_le _⟩ rfl hl.1 rfl (Nat.le_of_ble_eq_true rfl) rfl dX4_decide_8 (fun H locs hW hS => ?_)
  by_cases c11 : v8 = 0
  · rw [if_pos c11] at hf
    cases hf
    refine lv_nm (v := 0) c11.symm ?_
    exact c_T (As := [.int 0]) (rest := []) (t_X4_requireIndex l hst E x m g o) (kT_X4_31 hB ⟨Nat.le_of_ble_eq_true rfl, Nat.le_of_ble_eq_true rfl⟩) hx hb hml hown hB hK hW (fun _ h => h) hS ⟨Nat.le_of_ble_eq_true rfl, Nat.le_of_ble_eq_true rfl⟩ rfl hl.1 rfl (Nat.le_of_ble_eq_true rfl) htab hlk dX4_decide_11
  rw [if_neg c11] at hf
  refine c_S (As := [.int v8]) (st1 := []) (rest := []) (p_X4_requireIndex l E x m g o (by unfold f_X4_requireIndex; rw [if_neg c11])) (kc_X4_31 hB ⟨Nat.le_of_ble_eq_true rfl, Nat.le_of_ble_eq_true rfl⟩) hx hb hml hown hB hK hW hS ⟨Nat.zero_le _, Nat.zero_le _⟩ rfl hl.1 rfl (Nat.le_of_ble_eq_true rfl) rfl dX4_decide_11 (fun H locs hW hS => ?_)
  refine lv_iload_n hx hb dX4_decide_14 rfl (lv_at hl 3 rfl) ?_
  refine lv_iconst (v := 0) hx hb dX4_decide_15 (by decide) ?_
  refine lv_iconst (v := 5) hx hb dX4_decide_16 (by decide) ?_
  obtain ⟨v17, e17, hf⟩ := ob2 hf
  refine c_S (As := [.int a2, .int 0, .int 5]) (st1 := [.int v17]) (rest := []) (p_X4_isWithin l E x m g o e17) (kc_X4_35 hB ⟨Nat.le_of_ble_eq_true rfl, Nat.le_of_ble_eq_true rfl⟩) hx hb hml hown hB hK hW hS ⟨Nat.zero_le _, Nat.zero_le _⟩ rfl hl.1 rfl (Nat.le_of_ble_eq_true rfl) rfl dX4_decide_17 (fun H locs hW hS => ?_)
  by_cases c20 : v17 = 0
  · rw [if_pos c20] at hf
    cases hf
    refine lv_nm (v := 0) c20.symm ?_
    exact c_T (As := [.int 0]) (rest := []) (t_X4_requireArgument l hst E x m g o) (kT_X4_39 hB ⟨Nat.le_of_ble_eq_true rfl, Nat.le_of_ble_eq_true rfl⟩) hx hb hml hown hB hK hW (fun _ h => h) hS ⟨Nat.le_of_ble_eq_true rfl, Nat.le_of_ble_eq_true rfl⟩ rfl hl.1 rfl (Nat.le_of_ble_eq_true rfl) htab hlk dX4_decide_20
  rw [if_neg c20] at hf
  refine c_S (As := [.int v17]) (st1 := []) (rest := []) (p_X4_requireArgument l E x m g o (by unfold f_X4_requireArgument; rw [if_neg c20])) (kc_X4_39 hB ⟨Nat.le_of_ble_eq_true rfl, Nat.le_of_ble_eq_true rfl⟩) hx hb hml hown hB hK hW hS ⟨Nat.zero_le _, Nat.zero_le _⟩ rfl hl.1 rfl (Nat.le_of_ble_eq_true rfl) rfl dX4_decide_20 (fun H locs hW hS => ?_)
  refine lv_aload_n hx hb dX4_decide_23 rfl (lv_at hl 0 rfl) ?_
  refine gf_X4_10 hx hb hB hK hown hW dX4_decide_24 ?_
  refine lv_iload_n hx hb dX4_decide_27 rfl (lv_at hl 1 rfl) ?_
  refine lv_iload_n hx hb dX4_decide_28 rfl (lv_at hl 2 rfl) ?_
  refine lv_iload_n hx hb dX4_decide_29 rfl (lv_at hl 3 rfl) ?_
  obtain ⟨v30, e30, hf⟩ := ob2 hf
  refine c_V (As := [.int a0, .int a1, .int a2]) (st1 := [.int v30]) (rest := []) (p_X3_againstDecision l E IsB1 x m g o e30) (kc_X4_103 hB ⟨Nat.le_of_ble_eq_true rfl, Nat.le_of_ble_eq_true rfl⟩) (Wd.rec hK hW IsB1.l0 (cB_0 IsB1) (ci := 3) rfl) hx hb hml hown hB hK hW hS ⟨Nat.zero_le _, Nat.zero_le _⟩ rfl hl.1 rfl (Nat.le_of_ble_eq_true rfl) rfl dX4_decide_30 (fun H locs hW hS => ?_)
  refine lv_if_ne (tgt := 40) hx hb dX4_decide_33 (by decide) (fun c33 => ?_) (fun c33 => ?_)
  · rw [if_neg c33] at hf
    refine lv_iconst (v := 0) hx hb dX4_decide_40 (by decide) ?_
    exact J41 a0 a1 a2 0 _ _ _ hf hW hS (lv_sub hl [0, 1, 2, 3] rfl)
  · rw [if_pos c33] at hf
    refine lv_iconst (v := 1) hx hb dX4_decide_36 (by decide) ?_
    refine lv_goto (tgt := 41) hx hb dX4_decide_37 (by decide) ?_
    exact J41 a0 a1 a2 1 _ _ _ hf hW hS (lv_sub hl [0, 1, 2, 3] rfl)
set_option maxRecDepth 100000 in
set_option maxHeartbeats 4000000 in
theorem tp_X4_appeal (l : Launch) (hst : l.stackTraces = false) (E : TE) (x m : XS) (g o : Int64) {a0 : Int32} {k : Nat} (hf : t_X4_appeal x a0 = some k) : MT l E yX4_appeal cX4_appeal 2 (some .int) 7 [rf E 0, .int a0] (Wd E x m g o) (exn k) := by
  unfold t_X4_appeal at hf
  refine t_in (by decide) (Nat.le_of_ble_eq_true rfl) ?_
  intro p e s mi args below meth c H ls hx hb hlk htab hml hown hB hK hW hS hl
  have hl : lv_has ls 2 [(0, rf E 0), (1, .int a0)] := hl
  refine lv_aload_n hx hb dX4_appeal_0 rfl (lv_at hl 0 rfl) ?_
  refine gf_X4_10 hx hb hB hK hown hW dX4_appeal_1 ?_
  refine gf_X4_88 hx hb hB hK hown hW IsB1 dX4_appeal_4 ?_
  refine lv_iload_n hx hb dX4_appeal_7 rfl (lv_at hl 1 rfl) ?_
  obtain ⟨v8, e8, hf⟩ := ob2 hf
  refine c_V (As := [.int a0]) (st1 := [.int v8]) (rest := []) (p_X0_has l E IsB1 x m g o e8) (kc_X4_101 hB ⟨Nat.le_of_ble_eq_true rfl, Nat.le_of_ble_eq_true rfl⟩) (Wd.rec hK hW (IsB1.l8 (j := 7) (by decide)) (cB_7 IsB1) (ci := 0) rfl) hx hb hml hown hB hK hW hS ⟨Nat.zero_le _, Nat.zero_le _⟩ rfl hl.1 rfl (Nat.le_of_ble_eq_true rfl) rfl dX4_appeal_8 (fun H locs hW hS => ?_)
  by_cases c11 : v8 = 0
  · rw [if_pos c11] at hf
    cases hf
    refine lv_nm (v := 0) c11.symm ?_
    exact c_T (As := [.int 0]) (rest := []) (t_X4_requireIndex l hst E x m g o) (kT_X4_31 hB ⟨Nat.le_of_ble_eq_true rfl, Nat.le_of_ble_eq_true rfl⟩) hx hb hml hown hB hK hW (fun _ h => h) hS ⟨Nat.le_of_ble_eq_true rfl, Nat.le_of_ble_eq_true rfl⟩ rfl hl.1 rfl (Nat.le_of_ble_eq_true rfl) htab hlk dX4_appeal_11
  rw [if_neg c11] at hf
  refine c_S (As := [.int v8]) (st1 := []) (rest := []) (p_X4_requireIndex l E x m g o (by unfold f_X4_requireIndex; rw [if_neg c11])) (kc_X4_31 hB ⟨Nat.le_of_ble_eq_true rfl, Nat.le_of_ble_eq_true rfl⟩) hx hb hml hown hB hK hW hS ⟨Nat.zero_le _, Nat.zero_le _⟩ rfl hl.1 rfl (Nat.le_of_ble_eq_true rfl) rfl dX4_appeal_11 (fun H locs hW hS => ?_)
  refine lv_aload_n hx hb dX4_appeal_14 rfl (lv_at hl 0 rfl) ?_
  refine gf_X4_10 hx hb hB hK hown hW dX4_appeal_15 ?_
  refine lv_iload_n hx hb dX4_appeal_18 rfl (lv_at hl 1 rfl) ?_
  obtain ⟨v19, e19, hf⟩ := ob2 hf
  refine c_V (As := [.int a0]) (st1 := [.int v19]) (rest := []) (p_X3_canBeAppealed l E IsB1 x m g o e19) (kc_X4_109 hB ⟨Nat.le_of_ble_eq_true rfl, Nat.le_of_ble_eq_true rfl⟩) (Wd.rec hK hW IsB1.l0 (cB_0 IsB1) (ci := 3) rfl) hx hb hml hown hB hK hW hS ⟨Nat.zero_le _, Nat.zero_le _⟩ rfl hl.1 rfl (Nat.le_of_ble_eq_true rfl) rfl dX4_appeal_19 (fun H locs hW hS => ?_)
  by_cases c22 : v19 = 0
  · rw [if_pos c22] at hf
    cases hf
    refine lv_nm (v := 0) c22.symm ?_
    exact c_T (As := [.int 0]) (rest := []) (t_X4_requireState l hst E x m g o) (kT_X4_52 hB ⟨Nat.le_of_ble_eq_true rfl, Nat.le_of_ble_eq_true rfl⟩) hx hb hml hown hB hK hW (fun _ h => h) hS ⟨Nat.le_of_ble_eq_true rfl, Nat.le_of_ble_eq_true rfl⟩ rfl hl.1 rfl (Nat.le_of_ble_eq_true rfl) htab hlk dX4_appeal_22
  rw [if_neg c22] at hf
  refine c_S (As := [.int v19]) (st1 := []) (rest := []) (p_X4_requireState l E x m g o (by unfold f_X4_requireState; rw [if_neg c22])) (kc_X4_52 hB ⟨Nat.le_of_ble_eq_true rfl, Nat.le_of_ble_eq_true rfl⟩) hx hb hml hown hB hK hW hS ⟨Nat.zero_le _, Nat.zero_le _⟩ rfl hl.1 rfl (Nat.le_of_ble_eq_true rfl) rfl dX4_appeal_22 (fun H locs hW hS => ?_)
  cases hf
set_option maxRecDepth 100000 in
set_option maxHeartbeats 4000000 in
theorem tp_X4_judge (l : Launch) (hst : l.stackTraces = false) (E : TE) (x m : XS) (g o : Int64) {a0 : Int32} {a1 : Int32} {k : Nat} (hf : t_X4_judge x a0 a1 = some k) : MT l E yX4_judge cX4_judge 3 (some .int) 7 [rf E 0, .int a0, .int a1] (Wd E x m g o) (exn k) := by
  unfold t_X4_judge at hf
  refine t_in (by decide) (Nat.le_of_ble_eq_true rfl) ?_
  intro p e s mi args below meth c H ls hx hb hlk htab hml hown hB hK hW hS hl
  have hl : lv_has ls 3 [(0, rf E 0), (1, .int a0), (2, .int a1)] := hl
  have J31 : ∀ (l1_31 : Int32) (l2_31 : Int32) (t0_31 : Int32) (H : Heap) (locs : List Loc) (ls : Array Slot), t_X4_judge_31 x l1_31 l2_31 t0_31 = some k → Wd E x m g o H → va_S (Ah E) s.heap H locs → lv_has ls 3 [(0, rf E 0), (1, .int l1_31), (2, .int l2_31)] → W p l e (rmT 7) s mi args below meth c H locs 0 0 (ET E below args s (Wd E x m g o) (exn k)) (F0 mi 31 ls [.int t0_31]) := by
    intro l1_31 l2_31 t0_31 H locs ls hf hW hS hl
    unfold t_X4_judge_31 at hf
    by_cases c31 : t0_31 = 0
    · rw [if_pos c31] at hf
      cases hf
      refine lv_nm (v := 0) c31.symm ?_
      exact c_T (As := [.int 0]) (rest := []) (t_X4_requireState l hst E x m g o) (kT_X4_52 hB ⟨Nat.le_of_ble_eq_true rfl, Nat.le_of_ble_eq_true rfl⟩) hx hb hml hown hB hK hW (fun _ h => h) hS ⟨Nat.le_of_ble_eq_true rfl, Nat.le_of_ble_eq_true rfl⟩ rfl hl.1 rfl (Nat.le_of_ble_eq_true rfl) htab hlk dX4_judge_31
    rw [if_neg c31] at hf
    refine c_S (As := [.int t0_31]) (st1 := []) (rest := []) (p_X4_requireState l E x m g o (by unfold f_X4_requireState; rw [if_neg c31])) (kc_X4_52 hB ⟨Nat.le_of_ble_eq_true rfl, Nat.le_of_ble_eq_true rfl⟩) hx hb hml hown hB hK hW hS ⟨Nat.zero_le _, Nat.zero_le _⟩ rfl hl.1 rfl (Nat.le_of_ble_eq_true rfl) rfl dX4_judge_31 (fun H locs hW hS => ?_)
    cases hf
  refine lv_aload_n hx hb dX4_judge_0 rfl (lv_at hl 0 rfl) ?_
  refine gf_X4_10 hx hb hB hK hown hW dX4_judge_1 ?_
  refine gf_X4_88 hx hb hB hK hown hW IsB1 dX4_judge_4 ?_
  refine lv_iload_n hx hb dX4_judge_7 rfl (lv_at hl 1 rfl) ?_
  obtain ⟨v8, e8, hf⟩ := ob2 hf
  refine c_V (As := [.int a0]) (st1 := [.int v8]) (rest := []) (p_X0_has l E IsB1 x m g o e8) (kc_X4_101 hB ⟨Nat.le_of_ble_eq_true rfl, Nat.le_of_ble_eq_true rfl⟩) (Wd.rec hK hW (IsB1.l8 (j := 7) (by decide)) (cB_7 IsB1) (ci := 0) rfl) hx hb hml hown hB hK hW hS ⟨Nat.zero_le _, Nat.zero_le _⟩ rfl hl.1 rfl (Nat.le_of_ble_eq_true rfl) rfl dX4_judge_8 (fun H locs hW hS => ?_)
  by_cases c11 : v8 = 0
  · rw [if_pos c11] at hf
    cases hf
    refine lv_nm (v := 0) c11.symm ?_
    exact c_T (As := [.int 0]) (rest := []) (t_X4_requireIndex l hst E x m g o) (kT_X4_31 hB ⟨Nat.le_of_ble_eq_true rfl, Nat.le_of_ble_eq_true rfl⟩) hx hb hml hown hB hK hW (fun _ h => h) hS ⟨Nat.le_of_ble_eq_true rfl, Nat.le_of_ble_eq_true rfl⟩ rfl hl.1 rfl (Nat.le_of_ble_eq_true rfl) htab hlk dX4_judge_11
  rw [if_neg c11] at hf
  refine c_S (As := [.int v8]) (st1 := []) (rest := []) (p_X4_requireIndex l E x m g o (by unfold f_X4_requireIndex; rw [if_neg c11])) (kc_X4_31 hB ⟨Nat.le_of_ble_eq_true rfl, Nat.le_of_ble_eq_true rfl⟩) hx hb hml hown hB hK hW hS ⟨Nat.zero_le _, Nat.zero_le _⟩ rfl hl.1 rfl (Nat.le_of_ble_eq_true rfl) rfl dX4_judge_11 (fun H locs hW hS => ?_)
  refine lv_aload_n hx hb dX4_judge_14 rfl (lv_at hl 0 rfl) ?_
  refine gf_X4_10 hx hb hB hK hown hW dX4_judge_15 ?_
  refine lv_iload_n hx hb dX4_judge_18 rfl (lv_at hl 1 rfl) ?_
  refine lv_iload_n hx hb dX4_judge_19 rfl (lv_at hl 2 rfl) ?_
  obtain ⟨v20, e20, hf⟩ := ob2 hf
  refine c_V (As := [.int a0, .int a1]) (st1 := [.int v20]) (rest := []) (p_X3_againstJudgement l E IsB1 x m g o e20) (kc_X4_119 hB ⟨Nat.le_of_ble_eq_true rfl, Nat.le_of_ble_eq_true rfl⟩) (Wd.rec hK hW IsB1.l0 (cB_0 IsB1) (ci := 3) rfl) hx hb hml hown hB hK hW hS ⟨Nat.zero_le _, Nat.zero_le _⟩ rfl hl.1 rfl (Nat.le_of_ble_eq_true rfl) rfl dX4_judge_20 (fun H locs hW hS => ?_)
  refine lv_if_ne (tgt := 30) hx hb dX4_judge_23 (by decide) (fun c23 => ?_) (fun c23 => ?_)
  · rw [if_neg c23] at hf
    refine lv_iconst (v := 0) hx hb dX4_judge_30 (by decide) ?_
    exact J31 a0 a1 0 _ _ _ hf hW hS (lv_sub hl [0, 1, 2] rfl)
  · rw [if_pos c23] at hf
    refine lv_iconst (v := 1) hx hb dX4_judge_26 (by decide) ?_
    refine lv_goto (tgt := 31) hx hb dX4_judge_27 (by decide) ?_
    exact J31 a0 a1 1 _ _ _ hf hW hS (lv_sub hl [0, 1, 2] rfl)
set_option maxRecDepth 100000 in
set_option maxHeartbeats 4000000 in
theorem tp_X4_closeMonth (l : Launch) (hst : l.stackTraces = false) (E : TE) (x m : XS) (g o : Int64) {k : Nat} (hf : t_X4_closeMonth x = some k) : MT l E yX4_closeMonth cX4_closeMonth 1 (some .int) 7 [rf E 0] (Wd E x m g o) (exn k) := by
  unfold t_X4_closeMonth at hf
  refine t_in (by decide) (Nat.le_of_ble_eq_true rfl) ?_
  intro p e s mi args below meth c H ls hx hb hlk htab hml hown hB hK hW hS hl
  have hl : lv_has ls 1 [(0, rf E 0)] := hl
  have J18 : ∀ (t0_18 : Int32) (H : Heap) (locs : List Loc) (ls : Array Slot), t_X4_closeMonth_18 x t0_18 = some k → Wd E x m g o H → va_S (Ah E) s.heap H locs → lv_has ls 1 [(0, rf E 0)] → W p l e (rmT 7) s mi args below meth c H locs 0 0 (ET E below args s (Wd E x m g o) (exn k)) (F0 mi 18 ls [.int t0_18]) := by
    intro t0_18 H locs ls hf hW hS hl
    unfold t_X4_closeMonth_18 at hf
    by_cases c18 : t0_18 = 0
    · rw [if_pos c18] at hf
      cases hf
      refine lv_nm (v := 0) c18.symm ?_
      exact c_T (As := [.int 0]) (rest := []) (t_X4_requireState l hst E x m g o) (kT_X4_52 hB ⟨Nat.le_of_ble_eq_true rfl, Nat.le_of_ble_eq_true rfl⟩) hx hb hml hown hB hK hW (fun _ h => h) hS ⟨Nat.le_of_ble_eq_true rfl, Nat.le_of_ble_eq_true rfl⟩ rfl hl.1 rfl (Nat.le_of_ble_eq_true rfl) htab hlk dX4_closeMonth_18
    rw [if_neg c18] at hf
    refine c_S (As := [.int t0_18]) (st1 := []) (rest := []) (p_X4_requireState l E x m g o (by unfold f_X4_requireState; rw [if_neg c18])) (kc_X4_52 hB ⟨Nat.le_of_ble_eq_true rfl, Nat.le_of_ble_eq_true rfl⟩) hx hb hml hown hB hK hW hS ⟨Nat.zero_le _, Nat.zero_le _⟩ rfl hl.1 rfl (Nat.le_of_ble_eq_true rfl) rfl dX4_closeMonth_18 (fun H locs hW hS => ?_)
    cases hf
  refine lv_aload_n hx hb dX4_closeMonth_0 rfl (lv_at hl 0 rfl) ?_
  refine gf_X4_10 hx hb hB hK hown hW dX4_closeMonth_1 ?_
  refine gf_X4_125 hx hb hB hK hown hW IsB1 dX4_closeMonth_4 ?_
  refine lv_sipush (v := 500) hx hb dX4_closeMonth_7 (by decide) ?_
  refine lv_icmp_ge (tgt := 17) hx hb dX4_closeMonth_10 (by decide) (fun c10 => ?_) (fun c10 => ?_)
  · rw [if_pos c10] at hf
    refine lv_iconst (v := 0) hx hb dX4_closeMonth_17 (by decide) ?_
    exact J18 0 _ _ _ hf hW hS (lv_sub hl [0] rfl)
  · rw [if_neg c10] at hf
    refine lv_iconst (v := 1) hx hb dX4_closeMonth_13 (by decide) ?_
    refine lv_goto (tgt := 18) hx hb dX4_closeMonth_14 (by decide) ?_
    exact J18 1 _ _ _ hf hW hS (lv_sub hl [0] rfl)
set_option maxRecDepth 100000 in
set_option maxHeartbeats 4000000 in
theorem tp_X4_append (l : Launch) (hst : l.stackTraces = false) (E : TE) (x m : XS) (g o : Int64) {a0 : Int32} {k : Nat} (hf : t_X4_append x a0 = some k) : MT l E yX4_append cX4_append 2 (some .int) 7 [rf E 0, .int a0] (Wd E x m g o) (exn k) := by
  unfold t_X4_append at hf
  refine t_in (by decide) (Nat.le_of_ble_eq_true rfl) ?_
  intro p e s mi args below meth c H ls hx hb hlk htab hml hown hB hK hW hS hl
  have hl : lv_has ls 2 [(0, rf E 0), (1, .int a0)] := hl
  have J25 : ∀ (l1_25 : Int32) (t0_25 : Int32) (H : Heap) (locs : List Loc) (ls : Array Slot), t_X4_append_25 x l1_25 t0_25 = some k → Wd E x m g o H → va_S (Ah E) s.heap H locs → lv_has ls 2 [(0, rf E 0), (1, .int l1_25)] → W p l e (rmT 7) s mi args below meth c H locs 0 0 (ET E below args s (Wd E x m g o) (exn k)) (F0 mi 25 ls [.int t0_25]) := by
    intro l1_25 t0_25 H locs ls hf hW hS hl
    unfold t_X4_append_25 at hf
    by_cases c25 : t0_25 = 0
    · rw [if_pos c25] at hf
      cases hf
      refine lv_nm (v := 0) c25.symm ?_
      exact c_T (As := [.int 0]) (rest := []) (t_X4_requireState l hst E x m g o) (kT_X4_52 hB ⟨Nat.le_of_ble_eq_true rfl, Nat.le_of_ble_eq_true rfl⟩) hx hb hml hown hB hK hW (fun _ h => h) hS ⟨Nat.le_of_ble_eq_true rfl, Nat.le_of_ble_eq_true rfl⟩ rfl hl.1 rfl (Nat.le_of_ble_eq_true rfl) htab hlk dX4_append_25
    rw [if_neg c25] at hf
    refine c_S (As := [.int t0_25]) (st1 := []) (rest := []) (p_X4_requireState l E x m g o (by unfold f_X4_requireState; rw [if_neg c25])) (kc_X4_52 hB ⟨Nat.le_of_ble_eq_true rfl, Nat.le_of_ble_eq_true rfl⟩) hx hb hml hown hB hK hW hS ⟨Nat.zero_le _, Nat.zero_le _⟩ rfl hl.1 rfl (Nat.le_of_ble_eq_true rfl) rfl dX4_append_25 (fun H locs hW hS => ?_)
    cases hf
  refine lv_iload_n hx hb dX4_append_0 rfl (lv_at hl 1 rfl) ?_
  refine lv_bipush (v := 33) hx hb dX4_append_1 (by decide) ?_
  refine lv_bipush (v := 126) hx hb dX4_append_3 (by decide) ?_
  obtain ⟨v5, e5, hf⟩ := ob2 hf
  refine c_S (As := [.int a0, .int 33, .int 126]) (st1 := [.int v5]) (rest := []) (p_X4_isWithin l E x m g o e5) (kc_X4_35 hB ⟨Nat.le_of_ble_eq_true rfl, Nat.le_of_ble_eq_true rfl⟩) hx hb hml hown hB hK hW hS ⟨Nat.zero_le _, Nat.zero_le _⟩ rfl hl.1 rfl (Nat.le_of_ble_eq_true rfl) rfl dX4_append_5 (fun H locs hW hS => ?_)
  by_cases c8 : v5 = 0
  · rw [if_pos c8] at hf
    cases hf
    refine lv_nm (v := 0) c8.symm ?_
    exact c_T (As := [.int 0]) (rest := []) (t_X4_requireArgument l hst E x m g o) (kT_X4_39 hB ⟨Nat.le_of_ble_eq_true rfl, Nat.le_of_ble_eq_true rfl⟩) hx hb hml hown hB hK hW (fun _ h => h) hS ⟨Nat.le_of_ble_eq_true rfl, Nat.le_of_ble_eq_true rfl⟩ rfl hl.1 rfl (Nat.le_of_ble_eq_true rfl) htab hlk dX4_append_8
  rw [if_neg c8] at hf
  refine c_S (As := [.int v5]) (st1 := []) (rest := []) (p_X4_requireArgument l E x m g o (by unfold f_X4_requireArgument; rw [if_neg c8])) (kc_X4_39 hB ⟨Nat.le_of_ble_eq_true rfl, Nat.le_of_ble_eq_true rfl⟩) hx hb hml hown hB hK hW hS ⟨Nat.zero_le _, Nat.zero_le _⟩ rfl hl.1 rfl (Nat.le_of_ble_eq_true rfl) rfl dX4_append_8 (fun H locs hW hS => ?_)
  refine lv_aload_n hx hb dX4_append_11 rfl (lv_at hl 0 rfl) ?_
  refine gf_X4_132 hx hb hB hK hown hW dX4_append_12 ?_
  refine lv_bipush (v := 60) hx hb dX4_append_15 (by decide) ?_
  refine lv_icmp_ge (tgt := 24) hx hb dX4_append_17 (by decide) (fun c17 => ?_) (fun c17 => ?_)
  · rw [if_pos c17] at hf
    refine lv_iconst (v := 0) hx hb dX4_append_24 (by decide) ?_
    exact J25 a0 0 _ _ _ hf hW hS (lv_sub hl [0, 1] rfl)
  · rw [if_neg c17] at hf
    refine lv_iconst (v := 1) hx hb dX4_append_20 (by decide) ?_
    refine lv_goto (tgt := 25) hx hb dX4_append_21 (by decide) ?_
    exact J25 a0 1 _ _ _ hf hW hS (lv_sub hl [0, 1] rfl)
set_option maxRecDepth 100000 in
set_option maxHeartbeats 4000000 in
theorem tp_X4_complainAll (l : Launch) (hst : l.stackTraces = false) (E : TE) (x m : XS) (g o : Int64) {k : Nat} (hf : t_X4_complainAll x = some k) : MT l E yX4_complainAll cX4_complainAll 4 (some .int) 7 [rf E 0] (Wd E x m g o) (exn k) := by
  unfold t_X4_complainAll at hf
  refine t_in (by decide) (Nat.le_of_ble_eq_true rfl) ?_
  intro p e s mi args below meth c H ls hx hb hlk htab hml hown hB hK hW hS hl
  have hl : lv_has ls 4 [(0, rf E 0)] := hl
  have J63 : ∀ (l1_63 : Int32) (t0_63 : Int32) (H : Heap) (locs : List Loc) (ls : Array Slot), t_X4_complainAll_63 x l1_63 t0_63 = some k → Wd E x m g o H → va_S (Ah E) s.heap H locs → lv_has ls 4 [(0, rf E 0), (1, .int l1_63)] → W p l e (rmT 7) s mi args below meth c H locs 0 0 (ET E below args s (Wd E x m g o) (exn k)) (F0 mi 63 ls [.int t0_63]) := by
    intro l1_63 t0_63 H locs ls hf hW hS hl
    unfold t_X4_complainAll_63 at hf
    by_cases c63 : t0_63 = 0
    · rw [if_pos c63] at hf
      cases hf
      refine lv_nm (v := 0) c63.symm ?_
      exact c_T (As := [.int 0]) (rest := []) (t_X4_requireState l hst E x m g o) (kT_X4_52 hB ⟨Nat.le_of_ble_eq_true rfl, Nat.le_of_ble_eq_true rfl⟩) hx hb hml hown hB hK hW (fun _ h => h) hS ⟨Nat.le_of_ble_eq_true rfl, Nat.le_of_ble_eq_true rfl⟩ rfl hl.1 rfl (Nat.le_of_ble_eq_true rfl) htab hlk dX4_complainAll_63
    rw [if_neg c63] at hf
    refine c_S (As := [.int t0_63]) (st1 := []) (rest := []) (p_X4_requireState l E x m g o (by unfold f_X4_requireState; rw [if_neg c63])) (kc_X4_52 hB ⟨Nat.le_of_ble_eq_true rfl, Nat.le_of_ble_eq_true rfl⟩) hx hb hml hown hB hK hW hS ⟨Nat.zero_le _, Nat.zero_le _⟩ rfl hl.1 rfl (Nat.le_of_ble_eq_true rfl) rfl dX4_complainAll_63 (fun H locs hW hS => ?_)
    cases hf
  have J28 : ∀ (t0_28 : Int32) (H : Heap) (locs : List Loc) (ls : Array Slot), t_X4_complainAll_28 x t0_28 = some k → Wd E x m g o H → va_S (Ah E) s.heap H locs → lv_has ls 4 [(0, rf E 0)] → W p l e (rmT 7) s mi args below meth c H locs 0 0 (ET E below args s (Wd E x m g o) (exn k)) (F0 mi 28 ls [.int t0_28]) := by
    intro t0_28 H locs ls hf hW hS hl
    unfold t_X4_complainAll_28 at hf
    by_cases c28 : t0_28 = 0
    · rw [if_pos c28] at hf
      cases hf
      refine lv_nm (v := 0) c28.symm ?_
      exact c_T (As := [.int 0]) (rest := []) (t_X4_requireArgument l hst E x m g o) (kT_X4_39 hB ⟨Nat.le_of_ble_eq_true rfl, Nat.le_of_ble_eq_true rfl⟩) hx hb hml hown hB hK hW (fun _ h => h) hS ⟨Nat.le_of_ble_eq_true rfl, Nat.le_of_ble_eq_true rfl⟩ rfl hl.1 rfl (Nat.le_of_ble_eq_true rfl) htab hlk dX4_complainAll_28
    rw [if_neg c28] at hf
    refine c_S (As := [.int t0_28]) (st1 := []) (rest := []) (p_X4_requireArgument l E x m g o (by unfold f_X4_requireArgument; rw [if_neg c28])) (kc_X4_39 hB ⟨Nat.le_of_ble_eq_true rfl, Nat.le_of_ble_eq_true rfl⟩) hx hb hml hown hB hK hW hS ⟨Nat.zero_le _, Nat.zero_le _⟩ rfl hl.1 rfl (Nat.le_of_ble_eq_true rfl) rfl dX4_complainAll_28 (fun H locs hW hS => ?_)
    refine lv_aload_n hx hb dX4_complainAll_31 rfl (lv_at hl 0 rfl) ?_
    refine gf_X4_132 hx hb hB hK hown hW dX4_complainAll_32 ?_
    refine lv_iconst (v := 1) hx hb dX4_complainAll_35 (by decide) ?_
    refine lv_iadd hx hb dX4_complainAll_36 ?_
    refine lv_bipush (v := 7) hx hb dX4_complainAll_37 (by decide) ?_
    refine lv_idiv hx hb dX4_complainAll_39 (by decide) ?_
    obtain ⟨v40, e40, hf⟩ := ob hf
    refine lv_nm e40 ?_
    refine lv_istore_n (lv' := [(1, .int v40), (0, rf E 0)]) hx hb dX4_complainAll_40 rfl hl (by decide) rfl (fun ls hl => ?_)
    refine lv_aload_n hx hb dX4_complainAll_41 rfl (lv_at hl 1 rfl) ?_
    refine gf_X4_10 hx hb hB hK hown hW dX4_complainAll_42 ?_
    refine gf_X4_88 hx hb hB hK hown hW IsB1 dX4_complainAll_45 ?_
    refine gf_X4_92 hx hb hB hK hown hW IsB1 dX4_complainAll_48 ?_
    refine lv_iload_n hx hb dX4_complainAll_51 rfl (lv_at hl 0 rfl) ?_
    refine lv_iadd hx hb dX4_complainAll_52 ?_
    refine lv_bipush (v := 24) hx hb dX4_complainAll_53 (by decide) ?_
    refine lv_icmp_gt (tgt := 62) hx hb dX4_complainAll_55 (by decide) (fun c55 => ?_) (fun c55 => ?_)
    · rw [if_pos c55] at hf
      refine lv_iconst (v := 0) hx hb dX4_complainAll_62 (by decide) ?_
      exact J63 v40 0 _ _ _ hf hW hS (lv_sub hl [1, 0] rfl)
    · rw [if_neg c55] at hf
      refine lv_iconst (v := 1) hx hb dX4_complainAll_58 (by decide) ?_
      refine lv_goto (tgt := 63) hx hb dX4_complainAll_59 (by decide) ?_
      exact J63 v40 1 _ _ _ hf hW hS (lv_sub hl [1, 0] rfl)
  have J27 : ∀  (H : Heap) (locs : List Loc) (ls : Array Slot), t_X4_complainAll_27 x = some k → Wd E x m g o H → va_S (Ah E) s.heap H locs → lv_has ls 4 [(0, rf E 0)] → W p l e (rmT 7) s mi args below meth c H locs 0 0 (ET E below args s (Wd E x m g o) (exn k)) (F0 mi 27 ls []) := by
    intro H locs ls hf hW hS hl
    unfold t_X4_complainAll_27 at hf
    refine lv_iconst (v := 0) hx hb dX4_complainAll_27 (by decide) ?_
    exact J28 0 _ _ _ hf hW hS (lv_sub hl [0] rfl)
  refine lv_aload_n hx hb dX4_complainAll_0 rfl (lv_at hl 0 rfl) ?_
  obtain ⟨v1, e1, hf⟩ := ob2 hf
  refine c_V (As := []) (st1 := [.int v1]) (rest := []) (p_X4_firstError l E x m g o e1) (kc_X4_141 hB ⟨Nat.le_of_ble_eq_true rfl, Nat.le_of_ble_eq_true rfl⟩) (Wd.rec hK hW (by decide) cX_0 (ci := 4) rfl) hx hb hml hown hB hK hW hS ⟨Nat.zero_le _, Nat.zero_le _⟩ rfl hl.1 rfl (Nat.le_of_ble_eq_true rfl) rfl dX4_complainAll_1 (fun H locs hW hS => ?_)
  refine lv_aload_n hx hb dX4_complainAll_4 rfl (lv_at hl 0 rfl) ?_
  refine gf_X4_132 hx hb hB hK hown hW dX4_complainAll_5 ?_
  refine lv_icmp_ne (tgt := 27) hx hb dX4_complainAll_8 (by decide) (fun c8 => ?_) (fun c8 => ?_)
  · rw [if_neg c8] at hf
    exact J27  _ _ _ hf hW hS (lv_sub hl [0] rfl)
  · rw [if_pos c8] at hf
    refine lv_aload_n hx hb dX4_complainAll_11 rfl (lv_at hl 0 rfl) ?_
    refine gf_X4_132 hx hb hB hK hown hW dX4_complainAll_12 ?_
    refine lv_bipush (v := 7) hx hb dX4_complainAll_15 (by decide) ?_
    refine lv_irem hx hb dX4_complainAll_17 (by decide) ?_
    refine lv_bipush (v := 6) hx hb dX4_complainAll_18 (by decide) ?_
    refine lv_icmp_ne (tgt := 27) hx hb dX4_complainAll_20 (by decide) (fun c20 => ?_) (fun c20 => ?_)
    · rw [if_neg c20] at hf
      exact J27  _ _ _ hf hW hS (lv_sub hl [0] rfl)
    · rw [if_pos c20] at hf
      refine lv_iconst (v := 1) hx hb dX4_complainAll_23 (by decide) ?_
      refine lv_goto (tgt := 28) hx hb dX4_complainAll_24 (by decide) ?_
      exact J28 1 _ _ _ hf hW hS (lv_sub hl [0] rfl)
set_option maxRecDepth 100000 in
set_option maxHeartbeats 4000000 in
theorem tp_X4_undo (l : Launch) (hst : l.stackTraces = false) (E : TE) (x m : XS) (g o : Int64) {k : Nat} (hf : t_X4_undo x = some k) : MT l E yX4_undo cX4_undo 1 (some .int) 7 [rf E 0] (Wd E x m g o) (exn k) := by
  unfold t_X4_undo at hf
  refine t_in (by decide) (Nat.le_of_ble_eq_true rfl) ?_
  intro p e s mi args below meth c H ls hx hb hlk htab hml hown hB hK hW hS hl
  have hl : lv_has ls 1 [(0, rf E 0)] := hl
  have J12 : ∀ (t0_12 : Int32) (H : Heap) (locs : List Loc) (ls : Array Slot), t_X4_undo_12 x t0_12 = some k → Wd E x m g o H → va_S (Ah E) s.heap H locs → lv_has ls 1 [(0, rf E 0)] → W p l e (rmT 7) s mi args below meth c H locs 0 0 (ET E below args s (Wd E x m g o) (exn k)) (F0 mi 12 ls [.int t0_12]) := by
    intro t0_12 H locs ls hf hW hS hl
    unfold t_X4_undo_12 at hf
    by_cases c12 : t0_12 = 0
    · rw [if_pos c12] at hf
      cases hf
      refine lv_nm (v := 0) c12.symm ?_
      exact c_T (As := [.int 0]) (rest := []) (t_X4_requireState l hst E x m g o) (kT_X4_52 hB ⟨Nat.le_of_ble_eq_true rfl, Nat.le_of_ble_eq_true rfl⟩) hx hb hml hown hB hK hW (fun _ h => h) hS ⟨Nat.le_of_ble_eq_true rfl, Nat.le_of_ble_eq_true rfl⟩ rfl hl.1 rfl (Nat.le_of_ble_eq_true rfl) htab hlk dX4_undo_12
    rw [if_neg c12] at hf
    refine c_S (As := [.int t0_12]) (st1 := []) (rest := []) (p_X4_requireState l E x m g o (by unfold f_X4_requireState; rw [if_neg c12])) (kc_X4_52 hB ⟨Nat.le_of_ble_eq_true rfl, Nat.le_of_ble_eq_true rfl⟩) hx hb hml hown hB hK hW hS ⟨Nat.zero_le _, Nat.zero_le _⟩ rfl hl.1 rfl (Nat.le_of_ble_eq_true rfl) rfl dX4_undo_12 (fun H locs hW hS => ?_)
    cases hf
  refine lv_aload_n hx hb dX4_undo_0 rfl (lv_at hl 0 rfl) ?_
  refine gf_X4_147 hx hb hB hK hown hW dX4_undo_1 ?_
  refine lv_if_le (tgt := 11) hx hb dX4_undo_4 (by decide) (fun c4 => ?_) (fun c4 => ?_)
  · rw [if_pos c4] at hf
    refine lv_iconst (v := 0) hx hb dX4_undo_11 (by decide) ?_
    exact J12 0 _ _ _ hf hW hS (lv_sub hl [0] rfl)
  · rw [if_neg c4] at hf
    refine lv_iconst (v := 1) hx hb dX4_undo_7 (by decide) ?_
    refine lv_goto (tgt := 12) hx hb dX4_undo_8 (by decide) ?_
    exact J12 1 _ _ _ hf hW hS (lv_sub hl [0] rfl)
set_option maxRecDepth 100000 in
set_option maxHeartbeats 4000000 in
theorem tp_X4_complaint (l : Launch) (hst : l.stackTraces = false) (E : TE) (x m : XS) (g o : Int64) {a0 : Int32} {a1 : Int32} {k : Nat} (hf : t_X4_complaint x a0 a1 = some k) : MT l E yX4_complaint cX4_complaint 3 (some .int) 7 [rf E 0, .int a0, .int a1] (Wd E x m g o) (exn k) := by
  unfold t_X4_complaint at hf
  refine t_in (by decide) (Nat.le_of_ble_eq_true rfl) ?_
  intro p e s mi args below meth c H ls hx hb hlk htab hml hown hB hK hW hS hl
  have hl : lv_has ls 3 [(0, rf E 0), (1, .int a0), (2, .int a1)] := hl
  refine lv_aload_n hx hb dX4_complaint_0 rfl (lv_at hl 0 rfl) ?_
  refine gf_X4_10 hx hb hB hK hown hW dX4_complaint_1 ?_
  refine gf_X4_88 hx hb hB hK hown hW IsB1 dX4_complaint_4 ?_
  refine lv_iload_n hx hb dX4_complaint_7 rfl (lv_at hl 1 rfl) ?_
  obtain ⟨v8, e8, hf⟩ := ob2 hf
  refine c_V (As := [.int a0]) (st1 := [.int v8]) (rest := []) (p_X0_has l E IsB1 x m g o e8) (kc_X4_101 hB ⟨Nat.le_of_ble_eq_true rfl, Nat.le_of_ble_eq_true rfl⟩) (Wd.rec hK hW (IsB1.l8 (j := 7) (by decide)) (cB_7 IsB1) (ci := 0) rfl) hx hb hml hown hB hK hW hS ⟨Nat.zero_le _, Nat.zero_le _⟩ rfl hl.1 rfl (Nat.le_of_ble_eq_true rfl) rfl dX4_complaint_8 (fun H locs hW hS => ?_)
  by_cases c11 : v8 = 0
  · rw [if_pos c11] at hf
    cases hf
    refine lv_nm (v := 0) c11.symm ?_
    exact c_T (As := [.int 0]) (rest := []) (t_X4_requireIndex l hst E x m g o) (kT_X4_31 hB ⟨Nat.le_of_ble_eq_true rfl, Nat.le_of_ble_eq_true rfl⟩) hx hb hml hown hB hK hW (fun _ h => h) hS ⟨Nat.le_of_ble_eq_true rfl, Nat.le_of_ble_eq_true rfl⟩ rfl hl.1 rfl (Nat.le_of_ble_eq_true rfl) htab hlk dX4_complaint_11
  rw [if_neg c11] at hf
  refine c_S (As := [.int v8]) (st1 := []) (rest := []) (p_X4_requireIndex l E x m g o (by unfold f_X4_requireIndex; rw [if_neg c11])) (kc_X4_31 hB ⟨Nat.le_of_ble_eq_true rfl, Nat.le_of_ble_eq_true rfl⟩) hx hb hml hown hB hK hW hS ⟨Nat.zero_le _, Nat.zero_le _⟩ rfl hl.1 rfl (Nat.le_of_ble_eq_true rfl) rfl dX4_complaint_11 (fun H locs hW hS => ?_)
  refine lv_iload_n hx hb dX4_complaint_14 rfl (lv_at hl 2 rfl) ?_
  refine lv_iconst (v := 0) hx hb dX4_complaint_15 (by decide) ?_
  refine lv_bipush (v := 10) hx hb dX4_complaint_16 (by decide) ?_
  obtain ⟨v18, e18, hf⟩ := ob2 hf
  refine c_S (As := [.int a1, .int 0, .int 10]) (st1 := [.int v18]) (rest := []) (p_X4_isWithin l E x m g o e18) (kc_X4_35 hB ⟨Nat.le_of_ble_eq_true rfl, Nat.le_of_ble_eq_true rfl⟩) hx hb hml hown hB hK hW hS ⟨Nat.zero_le _, Nat.zero_le _⟩ rfl hl.1 rfl (Nat.le_of_ble_eq_true rfl) rfl dX4_complaint_18 (fun H locs hW hS => ?_)
  by_cases c21 : v18 = 0
  · rw [if_pos c21] at hf
    cases hf
    refine lv_nm (v := 0) c21.symm ?_
    exact c_T (As := [.int 0]) (rest := []) (t_X4_requireArgument l hst E x m g o) (kT_X4_39 hB ⟨Nat.le_of_ble_eq_true rfl, Nat.le_of_ble_eq_true rfl⟩) hx hb hml hown hB hK hW (fun _ h => h) hS ⟨Nat.le_of_ble_eq_true rfl, Nat.le_of_ble_eq_true rfl⟩ rfl hl.1 rfl (Nat.le_of_ble_eq_true rfl) htab hlk dX4_complaint_21
  rw [if_neg c21] at hf
  refine c_S (As := [.int v18]) (st1 := []) (rest := []) (p_X4_requireArgument l E x m g o (by unfold f_X4_requireArgument; rw [if_neg c21])) (kc_X4_39 hB ⟨Nat.le_of_ble_eq_true rfl, Nat.le_of_ble_eq_true rfl⟩) hx hb hml hown hB hK hW hS ⟨Nat.zero_le _, Nat.zero_le _⟩ rfl hl.1 rfl (Nat.le_of_ble_eq_true rfl) rfl dX4_complaint_21 (fun H locs hW hS => ?_)
  cases hf
set_option maxRecDepth 100000 in
set_option maxHeartbeats 4000000 in
theorem tp_X4_amends (l : Launch) (hst : l.stackTraces = false) (E : TE) (x m : XS) (g o : Int64) {a0 : Int32} {a1 : Int32} {a2 : Int32} {k : Nat} (hf : t_X4_amends x a0 a1 a2 = some k) : MT l E yX4_amends cX4_amends 4 (some .int) 7 [rf E 0, .int a0, .int a1, .int a2] (Wd E x m g o) (exn k) := by
  unfold t_X4_amends at hf
  refine t_in (by decide) (Nat.le_of_ble_eq_true rfl) ?_
  intro p e s mi args below meth c H ls hx hb hlk htab hml hown hB hK hW hS hl
  have hl : lv_has ls 4 [(0, rf E 0), (1, .int a0), (2, .int a1), (3, .int a2)] := hl
  refine lv_aload_n hx hb dX4_amends_0 rfl (lv_at hl 0 rfl) ?_
  refine gf_X4_10 hx hb hB hK hown hW dX4_amends_1 ?_
  refine gf_X4_42 hx hb hB hK hown hW IsB1 dX4_amends_4 ?_
  refine lv_iload_n hx hb dX4_amends_7 rfl (lv_at hl 1 rfl) ?_
  refine lv_iload_n hx hb dX4_amends_8 rfl (lv_at hl 2 rfl) ?_
  obtain ⟨v9, e9, hf⟩ := ob2 hf
  refine c_V (As := [.int a0, .int a1]) (st1 := [.int v9]) (rest := []) (p_X1_has l E IsB1 x m g o e9) (kc_X4_62 hB ⟨Nat.le_of_ble_eq_true rfl, Nat.le_of_ble_eq_true rfl⟩) (Wd.rec hK hW (IsB1.l8 (j := 1) (by decide)) (cB_1 IsB1) (ci := 1) rfl) hx hb hml hown hB hK hW hS ⟨Nat.zero_le _, Nat.zero_le _⟩ rfl hl.1 rfl (Nat.le_of_ble_eq_true rfl) rfl dX4_amends_9 (fun H locs hW hS => ?_)
  by_cases c12 : v9 = 0
  · rw [if_pos c12] at hf
    cases hf
    refine lv_nm (v := 0) c12.symm ?_
    exact c_T (As := [.int 0]) (rest := []) (t_X4_requireIndex l hst E x m g o) (kT_X4_31 hB ⟨Nat.le_of_ble_eq_true rfl, Nat.le_of_ble_eq_true rfl⟩) hx hb hml hown hB hK hW (fun _ h => h) hS ⟨Nat.le_of_ble_eq_true rfl, Nat.le_of_ble_eq_true rfl⟩ rfl hl.1 rfl (Nat.le_of_ble_eq_true rfl) htab hlk dX4_amends_12
  rw [if_neg c12] at hf
  refine c_S (As := [.int v9]) (st1 := []) (rest := []) (p_X4_requireIndex l E x m g o (by unfold f_X4_requireIndex; rw [if_neg c12])) (kc_X4_31 hB ⟨Nat.le_of_ble_eq_true rfl, Nat.le_of_ble_eq_true rfl⟩) hx hb hml hown hB hK hW hS ⟨Nat.zero_le _, Nat.zero_le _⟩ rfl hl.1 rfl (Nat.le_of_ble_eq_true rfl) rfl dX4_amends_12 (fun H locs hW hS => ?_)
  refine lv_iload_n hx hb dX4_amends_15 rfl (lv_at hl 3 rfl) ?_
  refine lv_iconst (v := 0) hx hb dX4_amends_16 (by decide) ?_
  refine lv_iconst (v := 4) hx hb dX4_amends_17 (by decide) ?_
  obtain ⟨v18, e18, hf⟩ := ob2 hf
  refine c_S (As := [.int a2, .int 0, .int 4]) (st1 := [.int v18]) (rest := []) (p_X4_isWithin l E x m g o e18) (kc_X4_35 hB ⟨Nat.le_of_ble_eq_true rfl, Nat.le_of_ble_eq_true rfl⟩) hx hb hml hown hB hK hW hS ⟨Nat.zero_le _, Nat.zero_le _⟩ rfl hl.1 rfl (Nat.le_of_ble_eq_true rfl) rfl dX4_amends_18 (fun H locs hW hS => ?_)
  by_cases c21 : v18 = 0
  · rw [if_pos c21] at hf
    cases hf
    refine lv_nm (v := 0) c21.symm ?_
    exact c_T (As := [.int 0]) (rest := []) (t_X4_requireArgument l hst E x m g o) (kT_X4_39 hB ⟨Nat.le_of_ble_eq_true rfl, Nat.le_of_ble_eq_true rfl⟩) hx hb hml hown hB hK hW (fun _ h => h) hS ⟨Nat.le_of_ble_eq_true rfl, Nat.le_of_ble_eq_true rfl⟩ rfl hl.1 rfl (Nat.le_of_ble_eq_true rfl) htab hlk dX4_amends_21
  rw [if_neg c21] at hf
  refine c_S (As := [.int v18]) (st1 := []) (rest := []) (p_X4_requireArgument l E x m g o (by unfold f_X4_requireArgument; rw [if_neg c21])) (kc_X4_39 hB ⟨Nat.le_of_ble_eq_true rfl, Nat.le_of_ble_eq_true rfl⟩) hx hb hml hown hB hK hW hS ⟨Nat.zero_le _, Nat.zero_le _⟩ rfl hl.1 rfl (Nat.le_of_ble_eq_true rfl) rfl dX4_amends_21 (fun H locs hW hS => ?_)
  cases hf
set_option maxRecDepth 100000 in
set_option maxHeartbeats 4000000 in
theorem tp_X4_precedent (l : Launch) (hst : l.stackTraces = false) (E : TE) (x m : XS) (g o : Int64) {a0 : Int32} {a1 : Int32} {a2 : Int32} {k : Nat} (hf : t_X4_precedent x a0 a1 a2 = some k) : MT l E yX4_precedent cX4_precedent 5 (some .int) 7 [rf E 0, .int a0, .int a1, .int a2] (Wd E x m g o) (exn k) := by
  unfold t_X4_precedent at hf
  refine t_in (by decide) (Nat.le_of_ble_eq_true rfl) ?_
  intro p e s mi args below meth c H ls hx hb hlk htab hml hown hB hK hW hS hl
  have hl : lv_has ls 5 [(0, rf E 0), (1, .int a0), (2, .int a1), (3, .int a2)] := hl
  have J19 : ∀ (l1_19 : Int32) (l2_19 : Int32) (l3_19 : Int32) (t0_19 : Int32) (H : Heap) (locs : List Loc) (ls : Array Slot), t_X4_precedent_19 x l1_19 l2_19 l3_19 t0_19 = some k → Wd E x m g o H → va_S (Ah E) s.heap H locs → lv_has ls 5 [(0, rf E 0), (1, .int l1_19), (2, .int l2_19), (3, .int l3_19)] → W p l e (rmT 7) s mi args below meth c H locs 0 0 (ET E below args s (Wd E x m g o) (exn k)) (F0 mi 19 ls [.int t0_19]) := by
    intro l1_19 l2_19 l3_19 t0_19 H locs ls hf hW hS hl
    unfold t_X4_precedent_19 at hf
    by_cases c19 : t0_19 = 0
    · rw [if_pos c19] at hf
      cases hf
      refine lv_nm (v := 0) c19.symm ?_
      exact c_T (As := [.int 0]) (rest := []) (t_X4_requireIndex l hst E x m g o) (kT_X4_31 hB ⟨Nat.le_of_ble_eq_true rfl, Nat.le_of_ble_eq_true rfl⟩) hx hb hml hown hB hK hW (fun _ h => h) hS ⟨Nat.le_of_ble_eq_true rfl, Nat.le_of_ble_eq_true rfl⟩ rfl hl.1 rfl (Nat.le_of_ble_eq_true rfl) htab hlk dX4_precedent_19
    rw [if_neg c19] at hf
    refine c_S (As := [.int t0_19]) (st1 := []) (rest := []) (p_X4_requireIndex l E x m g o (by unfold f_X4_requireIndex; rw [if_neg c19])) (kc_X4_31 hB ⟨Nat.le_of_ble_eq_true rfl, Nat.le_of_ble_eq_true rfl⟩) hx hb hml hown hB hK hW hS ⟨Nat.zero_le _, Nat.zero_le _⟩ rfl hl.1 rfl (Nat.le_of_ble_eq_true rfl) rfl dX4_precedent_19 (fun H locs hW hS => ?_)
    refine lv_iload_n hx hb dX4_precedent_22 rfl (lv_at hl 3 rfl) ?_
    refine lv_iconst (v := 0) hx hb dX4_precedent_23 (by decide) ?_
    refine lv_iconst (v := 4) hx hb dX4_precedent_24 (by decide) ?_
    obtain ⟨v25, e25, hf⟩ := ob2 hf
    refine c_S (As := [.int l3_19, .int 0, .int 4]) (st1 := [.int v25]) (rest := []) (p_X4_isWithin l E x m g o e25) (kc_X4_35 hB ⟨Nat.le_of_ble_eq_true rfl, Nat.le_of_ble_eq_true rfl⟩) hx hb hml hown hB hK hW hS ⟨Nat.zero_le _, Nat.zero_le _⟩ rfl hl.1 rfl (Nat.le_of_ble_eq_true rfl) rfl dX4_precedent_25 (fun H locs hW hS => ?_)
    by_cases c28 : v25 = 0
    · rw [if_pos c28] at hf
      cases hf
      refine lv_nm (v := 0) c28.symm ?_
      exact c_T (As := [.int 0]) (rest := []) (t_X4_requireArgument l hst E x m g o) (kT_X4_39 hB ⟨Nat.le_of_ble_eq_true rfl, Nat.le_of_ble_eq_true rfl⟩) hx hb hml hown hB hK hW (fun _ h => h) hS ⟨Nat.le_of_ble_eq_true rfl, Nat.le_of_ble_eq_true rfl⟩ rfl hl.1 rfl (Nat.le_of_ble_eq_true rfl) htab hlk dX4_precedent_28
    rw [if_neg c28] at hf
    refine c_S (As := [.int v25]) (st1 := []) (rest := []) (p_X4_requireArgument l E x m g o (by unfold f_X4_requireArgument; rw [if_neg c28])) (kc_X4_39 hB ⟨Nat.le_of_ble_eq_true rfl, Nat.le_of_ble_eq_true rfl⟩) hx hb hml hown hB hK hW hS ⟨Nat.zero_le _, Nat.zero_le _⟩ rfl hl.1 rfl (Nat.le_of_ble_eq_true rfl) rfl dX4_precedent_28 (fun H locs hW hS => ?_)
    cases hf
  have J18 : ∀ (l1_18 : Int32) (l2_18 : Int32) (l3_18 : Int32) (H : Heap) (locs : List Loc) (ls : Array Slot), t_X4_precedent_18 x l1_18 l2_18 l3_18 = some k → Wd E x m g o H → va_S (Ah E) s.heap H locs → lv_has ls 5 [(0, rf E 0), (1, .int l1_18), (2, .int l2_18), (3, .int l3_18)] → W p l e (rmT 7) s mi args below meth c H locs 0 0 (ET E below args s (Wd E x m g o) (exn k)) (F0 mi 18 ls []) := by
    intro l1_18 l2_18 l3_18 H locs ls hf hW hS hl
    unfold t_X4_precedent_18 at hf
    refine lv_iconst (v := 0) hx hb dX4_precedent_18 (by decide) ?_
    exact J19 l1_18 l2_18 l3_18 0 _ _ _ hf hW hS (lv_sub hl [0, 1, 2, 3] rfl)
  refine lv_iload_n hx hb dX4_precedent_0 rfl (lv_at hl 1 rfl) ?_
  obtain ⟨v1, e1, hf⟩ := ob2 hf
  refine c_S (As := [.int a0]) (st1 := [.int v1]) (rest := []) (p_X4_isKind l E x m g o e1) (kc_X4_27 hB ⟨Nat.le_of_ble_eq_true rfl, Nat.le_of_ble_eq_true rfl⟩) hx hb hml hown hB hK hW hS ⟨Nat.zero_le _, Nat.zero_le _⟩ rfl hl.1 rfl (Nat.le_of_ble_eq_true rfl) rfl dX4_precedent_1 (fun H locs hW hS => ?_)
  refine lv_if_eq (tgt := 18) hx hb dX4_precedent_4 (by decide) (fun c4 => ?_) (fun c4 => ?_)
  · rw [if_pos c4] at hf
    exact J18 a0 a1 a2 _ _ _ hf hW hS (lv_sub hl [0, 1, 2, 3] rfl)
  · rw [if_neg c4] at hf
    refine lv_iload_n hx hb dX4_precedent_7 rfl (lv_at hl 2 rfl) ?_
    obtain ⟨v8, e8, hf⟩ := ob2 hf
    refine c_S (As := [.int a1]) (st1 := [.int v8]) (rest := []) (p_X4_isGroup l E x m g o e8) (kc_X4_176 hB ⟨Nat.le_of_ble_eq_true rfl, Nat.le_of_ble_eq_true rfl⟩) hx hb hml hown hB hK hW hS ⟨Nat.zero_le _, Nat.zero_le _⟩ rfl hl.1 rfl (Nat.le_of_ble_eq_true rfl) rfl dX4_precedent_8 (fun H locs hW hS => ?_)
    refine lv_if_eq (tgt := 18) hx hb dX4_precedent_11 (by decide) (fun c11 => ?_) (fun c11 => ?_)
    · rw [if_pos c11] at hf
      exact J18 a0 a1 a2 _ _ _ hf hW hS (lv_sub hl [0, 1, 2, 3] rfl)
    · rw [if_neg c11] at hf
      refine lv_iconst (v := 1) hx hb dX4_precedent_14 (by decide) ?_
      refine lv_goto (tgt := 19) hx hb dX4_precedent_15 (by decide) ?_
      exact J19 a0 a1 a2 1 _ _ _ hf hW hS (lv_sub hl [0, 1, 2, 3] rfl)
set_option maxRecDepth 100000 in
set_option maxHeartbeats 4000000 in
theorem tp_X4_kind (l : Launch) (hst : l.stackTraces = false) (E : TE) (x m : XS) (g o : Int64) {a0 : Int32} {a1 : Int32} {k : Nat} (hf : t_X4_kind x a0 a1 = some k) : MT l E yX4_kind cX4_kind 3 (some .int) 7 [rf E 0, .int a0, .int a1] (Wd E x m g o) (exn k) := by
  unfold t_X4_kind at hf
  refine t_in (by decide) (Nat.le_of_ble_eq_true rfl) ?_
  intro p e s mi args below meth c H ls hx hb hlk htab hml hown hB hK hW hS hl
  have hl : lv_has ls 3 [(0, rf E 0), (1, .int a0), (2, .int a1)] := hl
  refine lv_iload_n hx hb dX4_kind_0 rfl (lv_at hl 1 rfl) ?_
  obtain ⟨v1, e1, hf⟩ := ob2 hf
  refine c_S (As := [.int a0]) (st1 := [.int v1]) (rest := []) (p_X4_isKind l E x m g o e1) (kc_X4_27 hB ⟨Nat.le_of_ble_eq_true rfl, Nat.le_of_ble_eq_true rfl⟩) hx hb hml hown hB hK hW hS ⟨Nat.zero_le _, Nat.zero_le _⟩ rfl hl.1 rfl (Nat.le_of_ble_eq_true rfl) rfl dX4_kind_1 (fun H locs hW hS => ?_)
  by_cases c4 : v1 = 0
  · rw [if_pos c4] at hf
    cases hf
    refine lv_nm (v := 0) c4.symm ?_
    exact c_T (As := [.int 0]) (rest := []) (t_X4_requireIndex l hst E x m g o) (kT_X4_31 hB ⟨Nat.le_of_ble_eq_true rfl, Nat.le_of_ble_eq_true rfl⟩) hx hb hml hown hB hK hW (fun _ h => h) hS ⟨Nat.le_of_ble_eq_true rfl, Nat.le_of_ble_eq_true rfl⟩ rfl hl.1 rfl (Nat.le_of_ble_eq_true rfl) htab hlk dX4_kind_4
  rw [if_neg c4] at hf
  refine c_S (As := [.int v1]) (st1 := []) (rest := []) (p_X4_requireIndex l E x m g o (by unfold f_X4_requireIndex; rw [if_neg c4])) (kc_X4_31 hB ⟨Nat.le_of_ble_eq_true rfl, Nat.le_of_ble_eq_true rfl⟩) hx hb hml hown hB hK hW hS ⟨Nat.zero_le _, Nat.zero_le _⟩ rfl hl.1 rfl (Nat.le_of_ble_eq_true rfl) rfl dX4_kind_4 (fun H locs hW hS => ?_)
  refine lv_iload_n hx hb dX4_kind_7 rfl (lv_at hl 2 rfl) ?_
  refine lv_iconst (v := 0) hx hb dX4_kind_8 (by decide) ?_
  refine lv_bipush (v := 7) hx hb dX4_kind_9 (by decide) ?_
  obtain ⟨v11, e11, hf⟩ := ob2 hf
  refine c_S (As := [.int a1, .int 0, .int 7]) (st1 := [.int v11]) (rest := []) (p_X4_isWithin l E x m g o e11) (kc_X4_35 hB ⟨Nat.le_of_ble_eq_true rfl, Nat.le_of_ble_eq_true rfl⟩) hx hb hml hown hB hK hW hS ⟨Nat.zero_le _, Nat.zero_le _⟩ rfl hl.1 rfl (Nat.le_of_ble_eq_true rfl) rfl dX4_kind_11 (fun H locs hW hS => ?_)
  by_cases c14 : v11 = 0
  · rw [if_pos c14] at hf
    cases hf
    refine lv_nm (v := 0) c14.symm ?_
    exact c_T (As := [.int 0]) (rest := []) (t_X4_requireArgument l hst E x m g o) (kT_X4_39 hB ⟨Nat.le_of_ble_eq_true rfl, Nat.le_of_ble_eq_true rfl⟩) hx hb hml hown hB hK hW (fun _ h => h) hS ⟨Nat.le_of_ble_eq_true rfl, Nat.le_of_ble_eq_true rfl⟩ rfl hl.1 rfl (Nat.le_of_ble_eq_true rfl) htab hlk dX4_kind_14
  rw [if_neg c14] at hf
  refine c_S (As := [.int v11]) (st1 := []) (rest := []) (p_X4_requireArgument l E x m g o (by unfold f_X4_requireArgument; rw [if_neg c14])) (kc_X4_39 hB ⟨Nat.le_of_ble_eq_true rfl, Nat.le_of_ble_eq_true rfl⟩) hx hb hml hown hB hK hW hS ⟨Nat.zero_le _, Nat.zero_le _⟩ rfl hl.1 rfl (Nat.le_of_ble_eq_true rfl) rfl dX4_kind_14 (fun H locs hW hS => ?_)
  cases hf
set_option maxRecDepth 100000 in
set_option maxHeartbeats 4000000 in
theorem tp_X4_count (l : Launch) (hst : l.stackTraces = false) (E : TE) (x m : XS) (g o : Int64) {a0 : Int32} {k : Nat} (hf : t_X4_count x a0 = some k) : MT l E yX4_count cX4_count 2 (some .int) 7 [rf E 0, .int a0] (Wd E x m g o) (exn k) := by
  unfold t_X4_count at hf
  refine t_in (by decide) (Nat.le_of_ble_eq_true rfl) ?_
  intro p e s mi args below meth c H ls hx hb hlk htab hml hown hB hK hW hS hl
  have hl : lv_has ls 2 [(0, rf E 0), (1, .int a0)] := hl
  refine lv_iload_n hx hb dX4_count_0 rfl (lv_at hl 1 rfl) ?_
  refine lv_iconst (v := 0) hx hb dX4_count_1 (by decide) ?_
  refine lv_bipush (v := 11) hx hb dX4_count_2 (by decide) ?_
  obtain ⟨v4, e4, hf⟩ := ob2 hf
  refine c_S (As := [.int a0, .int 0, .int 11]) (st1 := [.int v4]) (rest := []) (p_X4_isWithin l E x m g o e4) (kc_X4_35 hB ⟨Nat.le_of_ble_eq_true rfl, Nat.le_of_ble_eq_true rfl⟩) hx hb hml hown hB hK hW hS ⟨Nat.zero_le _, Nat.zero_le _⟩ rfl hl.1 rfl (Nat.le_of_ble_eq_true rfl) rfl dX4_count_4 (fun H locs hW hS => ?_)
  by_cases c7 : v4 = 0
  · rw [if_pos c7] at hf
    cases hf
    refine lv_nm (v := 0) c7.symm ?_
    exact c_T (As := [.int 0]) (rest := []) (t_X4_requireArgument l hst E x m g o) (kT_X4_39 hB ⟨Nat.le_of_ble_eq_true rfl, Nat.le_of_ble_eq_true rfl⟩) hx hb hml hown hB hK hW (fun _ h => h) hS ⟨Nat.le_of_ble_eq_true rfl, Nat.le_of_ble_eq_true rfl⟩ rfl hl.1 rfl (Nat.le_of_ble_eq_true rfl) htab hlk dX4_count_7
  rw [if_neg c7] at hf
  refine c_S (As := [.int v4]) (st1 := []) (rest := []) (p_X4_requireArgument l E x m g o (by unfold f_X4_requireArgument; rw [if_neg c7])) (kc_X4_39 hB ⟨Nat.le_of_ble_eq_true rfl, Nat.le_of_ble_eq_true rfl⟩) hx hb hml hown hB hK hW hS ⟨Nat.zero_le _, Nat.zero_le _⟩ rfl hl.1 rfl (Nat.le_of_ble_eq_true rfl) rfl dX4_count_7 (fun H locs hW hS => ?_)
  cases hf
set_option maxRecDepth 100000 in
set_option maxHeartbeats 4000000 in
theorem tp_X4_setting (l : Launch) (hst : l.stackTraces = false) (E : TE) (x m : XS) (g o : Int64) {a0 : Int32} {k : Nat} (hf : t_X4_setting x a0 = some k) : MT l E yX4_setting cX4_setting 2 (some .int) 7 [rf E 0, .int a0] (Wd E x m g o) (exn k) := by
  unfold t_X4_setting at hf
  refine t_in (by decide) (Nat.le_of_ble_eq_true rfl) ?_
  intro p e s mi args below meth c H ls hx hb hlk htab hml hown hB hK hW hS hl
  have hl : lv_has ls 2 [(0, rf E 0), (1, .int a0)] := hl
  refine lv_iload_n hx hb dX4_setting_0 rfl (lv_at hl 1 rfl) ?_
  obtain ⟨v1, e1, hf⟩ := ob2 hf
  refine c_S (As := [.int a0]) (st1 := [.int v1]) (rest := []) (p_X4_isSetting l E x m g o e1) (kc_X4_76 hB ⟨Nat.le_of_ble_eq_true rfl, Nat.le_of_ble_eq_true rfl⟩) hx hb hml hown hB hK hW hS ⟨Nat.zero_le _, Nat.zero_le _⟩ rfl hl.1 rfl (Nat.le_of_ble_eq_true rfl) rfl dX4_setting_1 (fun H locs hW hS => ?_)
  by_cases c4 : v1 = 0
  · rw [if_pos c4] at hf
    cases hf
    refine lv_nm (v := 0) c4.symm ?_
    exact c_T (As := [.int 0]) (rest := []) (t_X4_requireIndex l hst E x m g o) (kT_X4_31 hB ⟨Nat.le_of_ble_eq_true rfl, Nat.le_of_ble_eq_true rfl⟩) hx hb hml hown hB hK hW (fun _ h => h) hS ⟨Nat.le_of_ble_eq_true rfl, Nat.le_of_ble_eq_true rfl⟩ rfl hl.1 rfl (Nat.le_of_ble_eq_true rfl) htab hlk dX4_setting_4
  rw [if_neg c4] at hf
  refine c_S (As := [.int v1]) (st1 := []) (rest := []) (p_X4_requireIndex l E x m g o (by unfold f_X4_requireIndex; rw [if_neg c4])) (kc_X4_31 hB ⟨Nat.le_of_ble_eq_true rfl, Nat.le_of_ble_eq_true rfl⟩) hx hb hml hown hB hK hW hS ⟨Nat.zero_le _, Nat.zero_le _⟩ rfl hl.1 rfl (Nat.le_of_ble_eq_true rfl) rfl dX4_setting_4 (fun H locs hW hS => ?_)
  cases hf
set_option maxRecDepth 100000 in
set_option maxHeartbeats 4000000 in
theorem tp_X4_ofCustomer (l : Launch) (hst : l.stackTraces = false) (E : TE) (x m : XS) (g o : Int64) {a0 : Int32} {a1 : Int32} {k : Nat} (hf : t_X4_ofCustomer x a0 a1 = some k) : MT l E yX4_ofCustomer cX4_ofCustomer 3 (some .int) 7 [rf E 0, .int a0, .int a1] (Wd E x m g o) (exn k) := by
  unfold t_X4_ofCustomer at hf
  refine t_in (by decide) (Nat.le_of_ble_eq_true rfl) ?_
  intro p e s mi args below meth c H ls hx hb hlk htab hml hown hB hK hW hS hl
  have hl : lv_has ls 3 [(0, rf E 0), (1, .int a0), (2, .int a1)] := hl
  refine lv_iload_n hx hb dX4_ofCustomer_0 rfl (lv_at hl 1 rfl) ?_
  obtain ⟨v1, e1, hf⟩ := ob2 hf
  refine c_S (As := [.int a0]) (st1 := [.int v1]) (rest := []) (p_X4_isCustomer l E x m g o e1) (kc_X4_85 hB ⟨Nat.le_of_ble_eq_true rfl, Nat.le_of_ble_eq_true rfl⟩) hx hb hml hown hB hK hW hS ⟨Nat.zero_le _, Nat.zero_le _⟩ rfl hl.1 rfl (Nat.le_of_ble_eq_true rfl) rfl dX4_ofCustomer_1 (fun H locs hW hS => ?_)
  by_cases c4 : v1 = 0
  · rw [if_pos c4] at hf
    cases hf
    refine lv_nm (v := 0) c4.symm ?_
    exact c_T (As := [.int 0]) (rest := []) (t_X4_requireIndex l hst E x m g o) (kT_X4_31 hB ⟨Nat.le_of_ble_eq_true rfl, Nat.le_of_ble_eq_true rfl⟩) hx hb hml hown hB hK hW (fun _ h => h) hS ⟨Nat.le_of_ble_eq_true rfl, Nat.le_of_ble_eq_true rfl⟩ rfl hl.1 rfl (Nat.le_of_ble_eq_true rfl) htab hlk dX4_ofCustomer_4
  rw [if_neg c4] at hf
  refine c_S (As := [.int v1]) (st1 := []) (rest := []) (p_X4_requireIndex l E x m g o (by unfold f_X4_requireIndex; rw [if_neg c4])) (kc_X4_31 hB ⟨Nat.le_of_ble_eq_true rfl, Nat.le_of_ble_eq_true rfl⟩) hx hb hml hown hB hK hW hS ⟨Nat.zero_le _, Nat.zero_le _⟩ rfl hl.1 rfl (Nat.le_of_ble_eq_true rfl) rfl dX4_ofCustomer_4 (fun H locs hW hS => ?_)
  refine lv_iload_n hx hb dX4_ofCustomer_7 rfl (lv_at hl 2 rfl) ?_
  refine lv_iconst (v := 0) hx hb dX4_ofCustomer_8 (by decide) ?_
  refine lv_bipush (v := 23) hx hb dX4_ofCustomer_9 (by decide) ?_
  obtain ⟨v11, e11, hf⟩ := ob2 hf
  refine c_S (As := [.int a1, .int 0, .int 23]) (st1 := [.int v11]) (rest := []) (p_X4_isWithin l E x m g o e11) (kc_X4_35 hB ⟨Nat.le_of_ble_eq_true rfl, Nat.le_of_ble_eq_true rfl⟩) hx hb hml hown hB hK hW hS ⟨Nat.zero_le _, Nat.zero_le _⟩ rfl hl.1 rfl (Nat.le_of_ble_eq_true rfl) rfl dX4_ofCustomer_11 (fun H locs hW hS => ?_)
  by_cases c14 : v11 = 0
  · rw [if_pos c14] at hf
    cases hf
    refine lv_nm (v := 0) c14.symm ?_
    exact c_T (As := [.int 0]) (rest := []) (t_X4_requireArgument l hst E x m g o) (kT_X4_39 hB ⟨Nat.le_of_ble_eq_true rfl, Nat.le_of_ble_eq_true rfl⟩) hx hb hml hown hB hK hW (fun _ h => h) hS ⟨Nat.le_of_ble_eq_true rfl, Nat.le_of_ble_eq_true rfl⟩ rfl hl.1 rfl (Nat.le_of_ble_eq_true rfl) htab hlk dX4_ofCustomer_14
  rw [if_neg c14] at hf
  refine c_S (As := [.int v11]) (st1 := []) (rest := []) (p_X4_requireArgument l E x m g o (by unfold f_X4_requireArgument; rw [if_neg c14])) (kc_X4_39 hB ⟨Nat.le_of_ble_eq_true rfl, Nat.le_of_ble_eq_true rfl⟩) hx hb hml hown hB hK hW hS ⟨Nat.zero_le _, Nat.zero_le _⟩ rfl hl.1 rfl (Nat.le_of_ble_eq_true rfl) rfl dX4_ofCustomer_14 (fun H locs hW hS => ?_)
  cases hf
set_option maxRecDepth 100000 in
set_option maxHeartbeats 4000000 in
theorem tp_X4_whyNot (l : Launch) (hst : l.stackTraces = false) (E : TE) (x m : XS) (g o : Int64) {a0 : Int32} {a1 : Int32} {a2 : Int32} {k : Nat} (hf : t_X4_whyNot x a0 a1 a2 = some k) : MT l E yX4_whyNot cX4_whyNot 4 (some .int) 7 [rf E 0, .int a0, .int a1, .int a2] (Wd E x m g o) (exn k) := by
  unfold t_X4_whyNot at hf
  refine t_in (by decide) (Nat.le_of_ble_eq_true rfl) ?_
  intro p e s mi args below meth c H ls hx hb hlk htab hml hown hB hK hW hS hl
  have hl : lv_has ls 4 [(0, rf E 0), (1, .int a0), (2, .int a1), (3, .int a2)] := hl
  have J33 : ∀ (l1_33 : Int32) (l2_33 : Int32) (l3_33 : Int32) (t0_33 : Int32) (H : Heap) (locs : List Loc) (ls : Array Slot), t_X4_whyNot_33 x l1_33 l2_33 l3_33 t0_33 = some k → Wd E x m g o H → va_S (Ah E) s.heap H locs → lv_has ls 4 [(0, rf E 0), (1, .int l1_33), (2, .int l2_33), (3, .int l3_33)] → W p l e (rmT 7) s mi args below meth c H locs 0 0 (ET E below args s (Wd E x m g o) (exn k)) (F0 mi 33 ls [.int t0_33]) := by
    intro l1_33 l2_33 l3_33 t0_33 H locs ls hf hW hS hl
    unfold t_X4_whyNot_33 at hf
    by_cases c33 : t0_33 = 0
    · rw [if_pos c33] at hf
      cases hf
      refine lv_nm (v := 0) c33.symm ?_
      exact c_T (As := [.int 0]) (rest := []) (t_X4_requireArgument l hst E x m g o) (kT_X4_39 hB ⟨Nat.le_of_ble_eq_true rfl, Nat.le_of_ble_eq_true rfl⟩) hx hb hml hown hB hK hW (fun _ h => h) hS ⟨Nat.le_of_ble_eq_true rfl, Nat.le_of_ble_eq_true rfl⟩ rfl hl.1 rfl (Nat.le_of_ble_eq_true rfl) htab hlk dX4_whyNot_33
    rw [if_neg c33] at hf
    refine c_S (As := [.int t0_33]) (st1 := []) (rest := []) (p_X4_requireArgument l E x m g o (by unfold f_X4_requireArgument; rw [if_neg c33])) (kc_X4_39 hB ⟨Nat.le_of_ble_eq_true rfl, Nat.le_of_ble_eq_true rfl⟩) hx hb hml hown hB hK hW hS ⟨Nat.zero_le _, Nat.zero_le _⟩ rfl hl.1 rfl (Nat.le_of_ble_eq_true rfl) rfl dX4_whyNot_33 (fun H locs hW hS => ?_)
    cases hf
  have J28 : ∀ (l1_28 : Int32) (l2_28 : Int32) (l3_28 : Int32) (H : Heap) (locs : List Loc) (ls : Array Slot), t_X4_whyNot_28 x l1_28 l2_28 l3_28 = some k → Wd E x m g o H → va_S (Ah E) s.heap H locs → lv_has ls 4 [(0, rf E 0), (1, .int l1_28), (2, .int l2_28), (3, .int l3_28)] → W p l e (rmT 7) s mi args below meth c H locs 0 0 (ET E below args s (Wd E x m g o) (exn k)) (F0 mi 28 ls []) := by
    intro l1_28 l2_28 l3_28 H locs ls hf hW hS hl
    unfold t_X4_whyNot_28 at hf
    refine lv_iconst (v := 1) hx hb dX4_whyNot_28 (by decide) ?_
    refine lv_goto (tgt := 33) hx hb dX4_whyNot_29 (by decide) ?_
    exact J33 l1_28 l2_28 l3_28 1 _ _ _ hf hW hS (lv_sub hl [0, 1, 2, 3] rfl)
  refine lv_aload_n hx hb dX4_whyNot_0 rfl (lv_at hl 0 rfl) ?_
  refine gf_X4_10 hx hb hB hK hown hW dX4_whyNot_1 ?_
  refine gf_X4_88 hx hb hB hK hown hW IsB1 dX4_whyNot_4 ?_
  refine lv_iload_n hx hb dX4_whyNot_7 rfl (lv_at hl 1 rfl) ?_
  obtain ⟨v8, e8, hf⟩ := ob2 hf
  refine c_V (As := [.int a0]) (st1 := [.int v8]) (rest := []) (p_X0_has l E IsB1 x m g o e8) (kc_X4_101 hB ⟨Nat.le_of_ble_eq_true rfl, Nat.le_of_ble_eq_true rfl⟩) (Wd.rec hK hW (IsB1.l8 (j := 7) (by decide)) (cB_7 IsB1) (ci := 0) rfl) hx hb hml hown hB hK hW hS ⟨Nat.zero_le _, Nat.zero_le _⟩ rfl hl.1 rfl (Nat.le_of_ble_eq_true rfl) rfl dX4_whyNot_8 (fun H locs hW hS => ?_)
  by_cases c11 : v8 = 0
  · rw [if_pos c11] at hf
    cases hf
    refine lv_nm (v := 0) c11.symm ?_
    exact c_T (As := [.int 0]) (rest := []) (t_X4_requireIndex l hst E x m g o) (kT_X4_31 hB ⟨Nat.le_of_ble_eq_true rfl, Nat.le_of_ble_eq_true rfl⟩) hx hb hml hown hB hK hW (fun _ h => h) hS ⟨Nat.le_of_ble_eq_true rfl, Nat.le_of_ble_eq_true rfl⟩ rfl hl.1 rfl (Nat.le_of_ble_eq_true rfl) htab hlk dX4_whyNot_11
  rw [if_neg c11] at hf
  refine c_S (As := [.int v8]) (st1 := []) (rest := []) (p_X4_requireIndex l E x m g o (by unfold f_X4_requireIndex; rw [if_neg c11])) (kc_X4_31 hB ⟨Nat.le_of_ble_eq_true rfl, Nat.le_of_ble_eq_true rfl⟩) hx hb hml hown hB hK hW hS ⟨Nat.zero_le _, Nat.zero_le _⟩ rfl hl.1 rfl (Nat.le_of_ble_eq_true rfl) rfl dX4_whyNot_11 (fun H locs hW hS => ?_)
  refine lv_iload_n hx hb dX4_whyNot_14 rfl (lv_at hl 3 rfl) ?_
  refine lv_iconst (v := (-1)) hx hb dX4_whyNot_15 (by decide) ?_
  refine lv_icmp_eq (tgt := 28) hx hb dX4_whyNot_16 (by decide) (fun c16 => ?_) (fun c16 => ?_)
  · rw [if_pos c16] at hf
    exact J28 a0 a1 a2 _ _ _ hf hW hS (lv_sub hl [0, 1, 2, 3] rfl)
  · rw [if_neg c16] at hf
    refine lv_iload_n hx hb dX4_whyNot_19 rfl (lv_at hl 3 rfl) ?_
    refine lv_iconst (v := 0) hx hb dX4_whyNot_20 (by decide) ?_
    refine lv_iconst (v := 5) hx hb dX4_whyNot_21 (by decide) ?_
    obtain ⟨v22, e22, hf⟩ := ob2 hf
    refine c_S (As := [.int a2, .int 0, .int 5]) (st1 := [.int v22]) (rest := []) (p_X4_isWithin l E x m g o e22) (kc_X4_35 hB ⟨Nat.le_of_ble_eq_true rfl, Nat.le_of_ble_eq_true rfl⟩) hx hb hml hown hB hK hW hS ⟨Nat.zero_le _, Nat.zero_le _⟩ rfl hl.1 rfl (Nat.le_of_ble_eq_true rfl) rfl dX4_whyNot_22 (fun H locs hW hS => ?_)
    refine lv_if_eq (tgt := 32) hx hb dX4_whyNot_25 (by decide) (fun c25 => ?_) (fun c25 => ?_)
    · rw [if_pos c25] at hf
      refine lv_iconst (v := 0) hx hb dX4_whyNot_32 (by decide) ?_
      exact J33 a0 a1 a2 0 _ _ _ hf hW hS (lv_sub hl [0, 1, 2, 3] rfl)
    · rw [if_neg c25] at hf
      exact J28 a0 a1 a2 _ _ _ hf hW hS (lv_sub hl [0, 1, 2, 3] rfl)
set_option maxRecDepth 100000 in
set_option maxHeartbeats 4000000 in
theorem tp_X4_fair (l : Launch) (hst : l.stackTraces = false) (E : TE) (x m : XS) (g o : Int64) {a0 : Int32} {k : Nat} (hf : t_X4_fair x a0 = some k) : MT l E yX4_fair cX4_fair 6 (some .int) 7 [rf E 0, .int a0] (Wd E x m g o) (exn k) := by
  unfold t_X4_fair at hf
  refine t_in (by decide) (Nat.le_of_ble_eq_true rfl) ?_
  intro p e s mi args below meth c H ls hx hb hlk htab hml hown hB hK hW hS hl
  have hl : lv_has ls 6 [(0, rf E 0), (1, .int a0)] := hl
  refine lv_aload_n hx hb dX4_fair_0 rfl (lv_at hl 0 rfl) ?_
  refine gf_X4_10 hx hb hB hK hown hW dX4_fair_1 ?_
  refine gf_X4_88 hx hb hB hK hown hW IsB1 dX4_fair_4 ?_
  refine lv_iload_n hx hb dX4_fair_7 rfl (lv_at hl 1 rfl) ?_
  obtain ⟨v8, e8, hf⟩ := ob2 hf
  refine c_V (As := [.int a0]) (st1 := [.int v8]) (rest := []) (p_X0_has l E IsB1 x m g o e8) (kc_X4_101 hB ⟨Nat.le_of_ble_eq_true rfl, Nat.le_of_ble_eq_true rfl⟩) (Wd.rec hK hW (IsB1.l8 (j := 7) (by decide)) (cB_7 IsB1) (ci := 0) rfl) hx hb hml hown hB hK hW hS ⟨Nat.zero_le _, Nat.zero_le _⟩ rfl hl.1 rfl (Nat.le_of_ble_eq_true rfl) rfl dX4_fair_8 (fun H locs hW hS => ?_)
  by_cases c11 : v8 = 0
  · rw [if_pos c11] at hf
    cases hf
    refine lv_nm (v := 0) c11.symm ?_
    exact c_T (As := [.int 0]) (rest := []) (t_X4_requireIndex l hst E x m g o) (kT_X4_31 hB ⟨Nat.le_of_ble_eq_true rfl, Nat.le_of_ble_eq_true rfl⟩) hx hb hml hown hB hK hW (fun _ h => h) hS ⟨Nat.le_of_ble_eq_true rfl, Nat.le_of_ble_eq_true rfl⟩ rfl hl.1 rfl (Nat.le_of_ble_eq_true rfl) htab hlk dX4_fair_11
  rw [if_neg c11] at hf
  refine c_S (As := [.int v8]) (st1 := []) (rest := []) (p_X4_requireIndex l E x m g o (by unfold f_X4_requireIndex; rw [if_neg c11])) (kc_X4_31 hB ⟨Nat.le_of_ble_eq_true rfl, Nat.le_of_ble_eq_true rfl⟩) hx hb hml hown hB hK hW hS ⟨Nat.zero_le _, Nat.zero_le _⟩ rfl hl.1 rfl (Nat.le_of_ble_eq_true rfl) rfl dX4_fair_11 (fun H locs hW hS => ?_)
  cases hf
set_option maxRecDepth 100000 in
set_option maxHeartbeats 4000000 in
theorem tp_X4_ifJudged (l : Launch) (hst : l.stackTraces = false) (E : TE) (x m : XS) (g o : Int64) {a0 : Int32} {a1 : Int32} {a2 : Int32} {k : Nat} (hf : t_X4_ifJudged x a0 a1 a2 = some k) : MT l E yX4_ifJudged cX4_ifJudged 5 (some .int) 7 [rf E 0, .int a0, .int a1, .int a2] (Wd E x m g o) (exn k) := by
  unfold t_X4_ifJudged at hf
  refine t_in (by decide) (Nat.le_of_ble_eq_true rfl) ?_
  intro p e s mi args below meth c H ls hx hb hlk htab hml hown hB hK hW hS hl
  have hl : lv_has ls 5 [(0, rf E 0), (1, .int a0), (2, .int a1), (3, .int a2)] := hl
  refine lv_aload_n hx hb dX4_ifJudged_0 rfl (lv_at hl 0 rfl) ?_
  refine gf_X4_10 hx hb hB hK hown hW dX4_ifJudged_1 ?_
  refine gf_X4_88 hx hb hB hK hown hW IsB1 dX4_ifJudged_4 ?_
  refine lv_iload_n hx hb dX4_ifJudged_7 rfl (lv_at hl 1 rfl) ?_
  obtain ⟨v8, e8, hf⟩ := ob2 hf
  refine c_V (As := [.int a0]) (st1 := [.int v8]) (rest := []) (p_X0_has l E IsB1 x m g o e8) (kc_X4_101 hB ⟨Nat.le_of_ble_eq_true rfl, Nat.le_of_ble_eq_true rfl⟩) (Wd.rec hK hW (IsB1.l8 (j := 7) (by decide)) (cB_7 IsB1) (ci := 0) rfl) hx hb hml hown hB hK hW hS ⟨Nat.zero_le _, Nat.zero_le _⟩ rfl hl.1 rfl (Nat.le_of_ble_eq_true rfl) rfl dX4_ifJudged_8 (fun H locs hW hS => ?_)
  by_cases c11 : v8 = 0
  · rw [if_pos c11] at hf
    cases hf
    refine lv_nm (v := 0) c11.symm ?_
    exact c_T (As := [.int 0]) (rest := []) (t_X4_requireIndex l hst E x m g o) (kT_X4_31 hB ⟨Nat.le_of_ble_eq_true rfl, Nat.le_of_ble_eq_true rfl⟩) hx hb hml hown hB hK hW (fun _ h => h) hS ⟨Nat.le_of_ble_eq_true rfl, Nat.le_of_ble_eq_true rfl⟩ rfl hl.1 rfl (Nat.le_of_ble_eq_true rfl) htab hlk dX4_ifJudged_11
  rw [if_neg c11] at hf
  refine c_S (As := [.int v8]) (st1 := []) (rest := []) (p_X4_requireIndex l E x m g o (by unfold f_X4_requireIndex; rw [if_neg c11])) (kc_X4_31 hB ⟨Nat.le_of_ble_eq_true rfl, Nat.le_of_ble_eq_true rfl⟩) hx hb hml hown hB hK hW hS ⟨Nat.zero_le _, Nat.zero_le _⟩ rfl hl.1 rfl (Nat.le_of_ble_eq_true rfl) rfl dX4_ifJudged_11 (fun H locs hW hS => ?_)
  refine lv_iload_n hx hb dX4_ifJudged_14 rfl (lv_at hl 3 rfl) ?_
  refine lv_iconst (v := 0) hx hb dX4_ifJudged_15 (by decide) ?_
  refine lv_iconst (v := 3) hx hb dX4_ifJudged_16 (by decide) ?_
  obtain ⟨v17, e17, hf⟩ := ob2 hf
  refine c_S (As := [.int a2, .int 0, .int 3]) (st1 := [.int v17]) (rest := []) (p_X4_isWithin l E x m g o e17) (kc_X4_35 hB ⟨Nat.le_of_ble_eq_true rfl, Nat.le_of_ble_eq_true rfl⟩) hx hb hml hown hB hK hW hS ⟨Nat.zero_le _, Nat.zero_le _⟩ rfl hl.1 rfl (Nat.le_of_ble_eq_true rfl) rfl dX4_ifJudged_17 (fun H locs hW hS => ?_)
  by_cases c20 : v17 = 0
  · rw [if_pos c20] at hf
    cases hf
    refine lv_nm (v := 0) c20.symm ?_
    exact c_T (As := [.int 0]) (rest := []) (t_X4_requireArgument l hst E x m g o) (kT_X4_39 hB ⟨Nat.le_of_ble_eq_true rfl, Nat.le_of_ble_eq_true rfl⟩) hx hb hml hown hB hK hW (fun _ h => h) hS ⟨Nat.le_of_ble_eq_true rfl, Nat.le_of_ble_eq_true rfl⟩ rfl hl.1 rfl (Nat.le_of_ble_eq_true rfl) htab hlk dX4_ifJudged_20
  rw [if_neg c20] at hf
  refine c_S (As := [.int v17]) (st1 := []) (rest := []) (p_X4_requireArgument l E x m g o (by unfold f_X4_requireArgument; rw [if_neg c20])) (kc_X4_39 hB ⟨Nat.le_of_ble_eq_true rfl, Nat.le_of_ble_eq_true rfl⟩) hx hb hml hown hB hK hW hS ⟨Nat.zero_le _, Nat.zero_le _⟩ rfl hl.1 rfl (Nat.le_of_ble_eq_true rfl) rfl dX4_ifJudged_20 (fun H locs hW hS => ?_)
  cases hf
