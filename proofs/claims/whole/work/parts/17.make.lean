theorem qm_arrI : Cond.arrayClass .int ∈ BG := bg 111 (by decide +kernel) rfl
theorem qm_arrL : Cond.arrayClass .long ∈ BG := bg 1278 (by decide +kernel) rfl
theorem qm_oiI : Cond.instanceMethod Lib.objectInit ∈ BG := bg 81 (by decide +kernel) rfl
theorem qm_oiC : Cond.code Lib.objectInit ⟨#[0xb1]⟩ 1 none ∈ BG := bg 82 (by decide +kernel) rfl
theorem qm_olX0 : Cond.methodLink RX0 3 Lib.objectInit ∈ BG := bg 117 (by decide +kernel) rfl
theorem qm_inX0 : Cond.instantiable RX0 10 ∈ BG := bg 113 (by decide +kernel) rfl
theorem qm_icX0 : Cond.code yX0_init cX0_init 1 none ∈ BG := bg 116 (by decide +kernel) rfl
theorem qm_iiX0 : Cond.instanceMethod yX0_init ∈ BG := bg 115 (by decide +kernel) rfl
theorem qm_irX0 : Cond.initialized RX0 ∈ BG := bg 61 (by decide +kernel) rfl
theorem qm_olX1 : Cond.methodLink RX1 3 Lib.objectInit ∈ BG := bg 94 (by decide +kernel) rfl
theorem qm_inX1 : Cond.instantiable RX1 5 ∈ BG := bg 90 (by decide +kernel) rfl
theorem qm_icX1 : Cond.code yX1_init cX1_init 1 none ∈ BG := bg 93 (by decide +kernel) rfl
theorem qm_iiX1 : Cond.instanceMethod yX1_init ∈ BG := bg 92 (by decide +kernel) rfl
theorem qm_irX1 : Cond.initialized RX1 ∈ BG := bg 60 (by decide +kernel) rfl
theorem qm_olX2 : Cond.methodLink RX2 3 Lib.objectInit ∈ BG := bg 156 (by decide +kernel) rfl
theorem qm_inX2 : Cond.instantiable RX2 5 ∈ BG := bg 152 (by decide +kernel) rfl
theorem qm_icX2 : Cond.code yX2_init cX2_init 1 none ∈ BG := bg 155 (by decide +kernel) rfl
theorem qm_iiX2 : Cond.instanceMethod yX2_init ∈ BG := bg 154 (by decide +kernel) rfl
theorem qm_irX2 : Cond.initialized RX2 ∈ BG := bg 62 (by decide +kernel) rfl
theorem qm_olX3 : Cond.methodLink RX3 3 Lib.objectInit ∈ BG := bg 88 (by decide +kernel) rfl
theorem qm_inX3 : Cond.instantiable RX3 8 ∈ BG := bg 84 (by decide +kernel) rfl
theorem qm_icX3 : Cond.code yX3_init cX3_init 1 none ∈ BG := bg 87 (by decide +kernel) rfl
theorem qm_iiX3 : Cond.instanceMethod yX3_init ∈ BG := bg 86 (by decide +kernel) rfl
theorem qm_irX3 : Cond.initialized RX3 ∈ BG := bg 59 (by decide +kernel) rfl
theorem qm_olX4 : Cond.methodLink RX4 1 Lib.objectInit ∈ BG := bg 80 (by decide +kernel) rfl
theorem qm_inX4 : Cond.instantiable RX4 7 ∈ BG := bg 76 (by decide +kernel) rfl
theorem qm_icX4 : Cond.code yX4_init cX4_init 2 none ∈ BG := bg 79 (by decide +kernel) rfl
theorem qm_iiX4 : Cond.instanceMethod yX4_init ∈ BG := bg 78 (by decide +kernel) rfl
theorem qm_irX4 : Cond.initialized RX4 ∈ BG := bg 58 (by decide +kernel) rfl
theorem qm_olX5 : Cond.methodLink RX5 1 Lib.objectInit ∈ BG := bg 911 (by decide +kernel) rfl
theorem qm_inX5 : Cond.instantiable RX5 12 ∈ BG := bg 907 (by decide +kernel) rfl
theorem qm_icX5 : Cond.code yX5_init cX5_init 2 none ∈ BG := bg 910 (by decide +kernel) rfl
theorem qm_iiX5 : Cond.instanceMethod yX5_init ∈ BG := bg 909 (by decide +kernel) rfl
theorem qm_irX5 : Cond.initialized RX5 ∈ BG := bg 66 (by decide +kernel) rfl
theorem qm_fst : Cond.static yJ7_fill_53178 ∈ BG := bg 158 (by decide +kernel) rfl
theorem qm_fco : Cond.code yJ7_fill_53178 cJ7_fill_53178 4 none ∈ BG := bg 159 (by decide +kernel) rfl
theorem qm_fin : Cond.initialized "java/util/Arrays" ∈ BG := bg 63 (by decide +kernel) rfl
theorem q_83 : Cond.classLink RX4 7 RX3 ∈ BG := bg 83 (by decide +kernel) rfl
theorem q_85 : Cond.methodLink RX4 9 yX3_init ∈ BG := bg 85 (by decide +kernel) rfl
theorem q_89 : Cond.classLink RX3 9 RX1 ∈ BG := bg 89 (by decide +kernel) rfl
theorem q_112 : Cond.classLink RX3 18 RX0 ∈ BG := bg 112 (by decide +kernel) rfl
theorem q_151 : Cond.classLink RX3 25 RX2 ∈ BG := bg 151 (by decide +kernel) rfl
theorem q_153 : Cond.methodLink RX3 27 yX2_init ∈ BG := bg 153 (by decide +kernel) rfl
theorem q_157 : Cond.methodLink RX2 24 ⟨"java/util/Arrays", "fill", "([II)V"⟩ ∈ BG := bg 157 (by decide +kernel) rfl
theorem q_188 : Cond.methodLink RX3 52 ⟨"java/util/Arrays", "fill", "([II)V"⟩ ∈ BG := bg 188 (by decide +kernel) rfl
/-! ===== the making of the two objects ===== -/
def PB (E : TE) (L : List va_E) (H : Heap) : Prop := H.size = eh E + L.length ∧ ∀ (k : Nat) (q : va_E), L[k]? = some q → va_at (eD E) vwCl (eh E + k, q) H
theorem PB.nm {E : TE} {L L' : List va_E} {H : Heap} (h : L = L') (hW : PB E L H) : PB E L' H := h ▸ hW
theorem PB.push {E : TE} {L : List va_E} {H H1 : Heap} {q : va_E} (hW : PB E L H) (hz : H1.size = eh E + L.length + 1) (hat : va_at (eD E) vwCl (eh E + L.length, q) H1) (ho : ∀ a : Nat, a < eh E + L.length → H1[a]? = H[a]?) : PB E (L ++ [q]) H1 := by
  refine ⟨by rw [hz, List.length_append]; rfl, fun k r hk => ?_⟩
  rcases Nat.lt_trichotomy k L.length with h | h | h
  · rw [List.getElem?_append_left h] at hk
    exact (hW.2 k r hk).kept (ho _ (Nat.add_lt_add_left h _))
  · subst h
    rw [List.getElem?_append_right (Nat.le_refl _), Nat.sub_self] at hk
    cases hk
    exact hat
  · rw [List.getElem?_eq_none (by rw [List.length_append]; exact h)] at hk
    cases hk
theorem PB.set {E : TE} {L : List va_E} {H H1 : Heap} {k : Nat} {q : va_E} (hW : PB E L H) (hat : va_at (eD E) vwCl (eh E + k, q) H1) (hz : H1.size = H.size) (ho : ∀ a : Nat, a ≠ eh E + k → H1[a]? = H[a]?) : PB E (L.set k q) H1 := by
  refine ⟨by rw [hz, List.length_set]; exact hW.1, fun j r hj => ?_⟩
  by_cases h : k = j
  · subst h
    have hl : k < (L.set k q).length := (List.getElem?_eq_some_iff.mp hj).1
    rw [List.getElem?_set_self (by simpa using hl)] at hj
    cases hj
    exact hat
  · rw [List.getElem?_set_ne h] at hj
    exact (hW.2 j r hj).kept (ho _ (by show eh E + j ≠ eh E + k; omega))
theorem PB.at {E : TE} {L : List va_E} {H : Heap} (hW : PB E L H) {k : Nat} {c : va_E} (hc : L[k]? = some c) : va_P (eD E) vwCl [(eh E + k, c)] H := by
  intro i q hq
  have hz : i < 1 := (List.getElem?_eq_some_iff.mp hq).1
  rw [show i = 0 by omega] at hq
  cases hq
  exact hW.2 k c hc
theorem pb_get {L M : List va_E} {a i : Nat} {q : va_E} (ha : L.length = a) (h : M[i]? = some q) : (L ++ M)[a + i]? = some q := by
  subst ha
  rw [List.getElem?_append_right (Nat.le_add_right _ _), Nat.add_sub_cancel_left]
  exact h
theorem pb_set {L M : List va_E} {a i : Nat} {q : va_E} (ha : L.length = a) : (L ++ M).set (a + i) q = L ++ M.set i q := by
  subst ha
  rw [List.set_append_right _ _ (Nat.le_add_right _ _), Nat.add_sub_cancel_left]
theorem pb_len {L M : List va_E} {a j : Nat} (ha : L.length = a) (hj : M.length = j) : (L ++ M).length = a + j := by rw [List.length_append, ha, hj]
def Kc (E : TE) (U : State) : Prop := Ks E U ∧ va_AO "AmendsLedger$State" U
theorem Kc.go {E : TE} {s U : State} {H : Heap} {locs : List Loc} (h : Kc E s) (hW : s.WarmedH U.vm) (hS : va_S (Ah E) s.heap H locs) (hh : U.heap = H) : Kc E U := ⟨h.1.go hW hS hh, h.2.moved hW.alike⟩
theorem Kc.same {E : TE} {u U : State} (h : Kc E u) (hvm : u.vm = U.vm) (hh : u.heap = U.heap) : Kc E U := by
  have hW : u.WarmedH U.vm := by rw [← hvm]; exact State.WarmedH.refl u
  exact h.go hW (H := U.heap) (locs := []) (by rw [hh]; exact va_S.rf) rfl
abbrev rmC (d mc ms : Nat) : Room := { frames := d, cells := mc, slots := ms, locals := 28 * d }
def MC (l : Launch) (E : TE) (y : MethodName) (b : ByteArray) (n d mc ms : Nat) (As : List Value) (W0 W1 : Heap → Prop) : Prop :=
  Met l y (wsM y b n none) (rmC d mc ms) (va_Pc As (fun U => Kc E U ∧ W0 U.heap)) (QG E W1 none) mc ms (Ah E)
def EC (E : TE) (below : List Frame) (args : Array Value) (s : State) (W1 : Heap → Prop) (mc ms : Nat) : State → Prop := MQ below (QG E W1 none) args s mc ms (Ah E)
section MK
variable {p : Program} {l : Launch} {e : Env} {R : Room} {s : State} {mi : MethodId} {args : Array Value} {below : List Frame} {meth : Method} {c : Code} {H : Heap} {locs : List Loc} {cells slots : Nat} {Q : State → Prop}
variable {cc : ByteArray} {pc : Nat} {ls : Array Slot} {rest : List Value} {E : TE} {L M : List va_E} {a : Nat}
theorem mk_in {y : MethodName} {b : ByteArray} {n d mc ms : Nat} {As : List Value} {W0 W1 : Heap → Prop} (hy : plainName y.cls = true) (hA : (lg_sl As).length ≤ n)
    (body : ∀ (p : Program) (e : Env) (s : State) (mi : MethodId) (args : Array Value) (below : List Frame) (meth : Method) (c : Code) (H : Heap) (ls : Array Slot), p.tables.exec = Jvm.exec → c.code = b → meth.sig.returnType = none → meth.locks = false → c.maxLocals = n → s.vm.findClass y.cls = some mi.cls → meth.name = y.name → (∀ w ∈ BG, w.before args s = true) → Kc E s → W0 H → va_S (Ah E) s.heap H [] → lv_has ls n (lv_args 0 As) →
      W p l e (rmC d mc ms) s mi args below meth c H [] 0 0 (EC E below args s W1 mc ms) (F0 mi 0 ls [])) : MC l E y b n d mc ms As W0 W1 := by
  refine Met.ofW (cc := b) (maxL := n) (ret := none) hy rfl ?_
  intro p e s mi args below meth c s₁ B hml hv
  obtain ⟨rfl, hK, hW⟩ := hv
  have hl := lv_entry As (n := n) hA
  rw [lg_entry_eq]
  exact body p e s mi _ below meth c s.heap _ B.exec B.bytes B.returns B.notSynchronized hml (findClass_of_methodNamed B.named) (name_of_methodNamed B.named B.method).1 (fun w hw => atoms_spec (ws := wsM y b n none) B.pre w (List.mem_cons_of_mem _ hw)) hK hW va_S.rf hl
theorem e_c {W1 : Heap → Prop} (hx : p.tables.exec = Jvm.exec) (hb : c.code = cc) (hr : meth.sig.returnType = none) (hlocks : meth.locks = false) (hW : W1 H) (hS : va_S (Ah E) s.heap H locs) (hdg : decode cc pc = .ok (.return_, 1)) : W p l e R s mi args below meth c H locs cells slots (EC E below args s W1 cells slots) (F0 mi pc ls []) :=
  W.vret hx hb hr (fun t ht hW9 => ⟨rfl, by rw [ht]; exact hW, hS.F ht⟩) hS.2.2 hdg hlocks
theorem p_new {own C : String} {T : u_T} {N ci index : Nat} (hx : p.tables.exec = Jvm.exec) (hb : c.code = cc) (hB : ∀ w ∈ BG, w.before args s = true) (hK : Ks E s) (hin : ∀ w ∈ u_ws C T N, w ∈ BG) (ty : Nat → FieldType) (hty : ∀ k, k < N → parseFieldDescriptor (T k).2.2.1 = some (ty k)) (hown : s.vm.findClass own = some mi.cls) (hcl : Cond.classLink own index C ∈ BG) (hinst : Cond.instantiable C N ∈ BG) (hini : Cond.initialized C ∈ BG)
    (hW : PB E L H) (hS : va_S (Ah E) s.heap H locs) (hc : vwCl[ci]? = some (C, T, N)) {fs : List Value} (hfs : ∀ j, j < N → defaultValue (ty j) = vp_V fs j) (hcells : cells + 1 ≤ R.cells) (hslots : slots + N ≤ R.slots) (ha : L.length = a) (hdg : decode cc pc = .ok (.new index, 3))
    (kk : ∀ H1 : Heap, PB E (L ++ [.inr (ci, fs)]) H1 → va_S (Ah E) s.heap H1 locs → W p l e R s mi args below meth c H1 locs (cells + 1) (slots + N) Q (F0 mi (pc + 3) ls (rf E a :: rest))) : W p l e R s mi args below meth c H locs cells slots Q (F0 mi pc ls rest) := by
  subst ha
  have hKn := hK.1.1 ci _ hc
  refine W.newcK hx hb hown (hB _ hcl) (hB _ hinst) (hB _ hini) rfl hdg hcells hslots hKn.2.1 hW.1 fun H1 kC hkC e1 z1 o1 => ?_
  refine kk H1 (hW.push z1 ⟨_, hc, (u_born ty hB hin hKn hkC e1 hty).to hfs⟩ o1) ⟨Nat.le_trans hS.1 (by rw [z1, hW.1]; exact Nat.le_succ _), fun x h1 h2 => ?_, hS.2.2⟩
  exact (o1 x (Nat.lt_of_lt_of_le h1 (by rw [← hW.1]; exact hS.1))).trans (hS.2.1 x h1 h2)
theorem p_newi (hx : p.tables.exec = Jvm.exec) (hb : c.code = cc) (hB : ∀ w ∈ BG, w.before args s = true) (hK : Ks E s) (hW : PB E (L ++ M) H) (hS : va_S (Ah E) s.heap H locs) {n : Int32} {N j : Nat} (hn : ¬ n < 0) (hN : n.toNatClampNeg = N) (hbytes : N * 4 ≤ 536870912) (hcells : cells + 1 ≤ R.cells) (hslots : slots + N ≤ R.slots) (ha : L.length = a) (hj : M.length = j) (hdg : decode cc pc = .ok (.newarray .int, 2))
    (kk : ∀ H1 : Heap, PB E (L ++ (M ++ [ar E N (fun _ => 0)])) H1 → va_S (Ah E) s.heap H1 locs → W p l e R s mi args below meth c H1 locs (cells + 1) (slots + N) Q (F0 mi (pc + 2) ls (rf E (a + j) :: rest))) : W p l e R s mi args below meth c H locs cells slots Q (F0 mi pc ls (.int n :: rest)) := by
  have hz := pb_len (M := M) ha hj
  have h1 := hW.1
  rw [hz] at h1
  refine va_newaK hx hb (atype := .int) (hB _ qm_arrI) rfl hdg rfl hn hN hbytes hcells hslots h1 fun H1 cA e1 z1 o1 _ hf => ?_
  have hcA : cA = eI E := by
    have h2 : s.vm.findClass ("[" ++ FieldType.int.toString) = some (eI E) := (hK.1.2 0 (eI E, .int) rfl).2
    exact Option.some.inj (hf.symm.trans h2)
  subst hcA
  refine kk H1 ((List.append_assoc L M _) ▸ hW.push (by rw [z1, hz]) (by rw [hz]; exact e1) (by rw [hz]; exact o1)) ⟨Nat.le_trans hS.1 (by rw [z1, h1]; exact Nat.le_succ _), fun x h3 h2 => ?_, hS.2.2⟩
  exact (o1 x (Nat.lt_of_lt_of_le h3 (by rw [← h1]; exact hS.1))).trans (hS.2.1 x h3 h2)
theorem p_newl (hx : p.tables.exec = Jvm.exec) (hb : c.code = cc) (hB : ∀ w ∈ BG, w.before args s = true) (hK : Ks E s) (hW : PB E L H) (hS : va_S (Ah E) s.heap H locs) (hcells : cells + 1 ≤ R.cells) (hslots : slots + 1 ≤ R.slots) (ha : L.length = a) (hdg : decode cc pc = .ok (.newarray .long, 2))
    (kk : ∀ H1 : Heap, PB E (L ++ [.inl (eL E, 1, .inr (.inl (fun _ => 0)))]) H1 → va_S (Ah E) s.heap H1 locs → W p l e R s mi args below meth c H1 locs (cells + 1) (slots + 1) Q (F0 mi (pc + 2) ls (rf E a :: rest))) : W p l e R s mi args below meth c H locs cells slots Q (F0 mi pc ls (.int 1 :: rest)) := by
  subst ha
  have h1 := hW.1
  refine va_newaK hx hb (atype := .long) (hB _ qm_arrL) rfl hdg rfl (by decide) (N := 1) (by decide) (by decide) hcells hslots h1 fun H1 cA e1 z1 o1 _ hf => ?_
  have hcA : cA = eL E := by
    have h2 : s.vm.findClass ("[" ++ FieldType.long.toString) = some (eL E) := (hK.1.2 2 (eL E, .long) rfl).2
    exact Option.some.inj (hf.symm.trans h2)
  subst hcA
  refine kk H1 (hW.push z1 e1 o1) ⟨Nat.le_trans hS.1 (by rw [z1, h1]; exact Nat.le_succ _), fun x h3 h2 => ?_, hS.2.2⟩
  exact (o1 x (Nat.lt_of_lt_of_le h3 (by rw [← h1]; exact hS.1))).trans (hS.2.1 x h3 h2)
theorem p_newq (hx : p.tables.exec = Jvm.exec) (hb : c.code = cc) (hB : ∀ w ∈ BG, w.before args s = true) (hK : Kc E s) {own : String} {index : Nat} (hown : s.vm.findClass own = some mi.cls) (hcl : Cond.classLink own index "AmendsLedger$State" ∈ BG) (hW : PB E (L ++ M) H) (hS : va_S (Ah E) s.heap H locs) {n : Int32} {N j : Nat} (hn : ¬ n < 0) (hN : n.toNatClampNeg = N) (hbytes : N * 4 ≤ 536870912) (hcells : cells + 1 ≤ R.cells) (hslots : slots + N ≤ R.slots) (ha : L.length = a) (hj : M.length = j) (hdg : decode cc pc = .ok (.anewarray index, 3))
    (kk : ∀ H1 : Heap, PB E (L ++ (M ++ [.inl (eS E, N, .inr (.inr (.inr (.inr (fun _ => none)))))])) H1 → va_S (Ah E) s.heap H1 locs → W p l e R s mi args below meth c H1 locs (cells + 1) (slots + N) Q (F0 mi (pc + 3) ls (rf E (a + j) :: rest))) : W p l e R s mi args below meth c H locs cells slots Q (F0 mi pc ls (.int n :: rest)) := by
  have hz := pb_len (M := M) ha hj
  have h1 := hW.1
  rw [hz] at h1
  subst hN
  refine W.anew hx hb hown (hB _ hcl) (va_AO.use hK.2) rfl hdg rfl hn hbytes hcells hslots fun cA kA comp f1 f2 f3 f4 => ?_
  have hcA : cA = eS E := by
    obtain ⟨_, _, -, -, -, h2⟩ := (hK.1.1.2 1 (eS E, .object "AmendsLedger$State") rfl).2
    exact Option.some.inj (f1.symm.trans h2)
  subst hcA
  generalize hH1 : H.push ({ cls := eS E, slots := Array.replicate n.toNatClampNeg .null, vm := .none } : Cell) = H1
  have z1 : H1.size = H.size + 1 := by rw [← hH1, Array.size_push]
  have e1 : H1[H.size]? = some (arrV (eS E) n.toNatClampNeg (fun _ => .null)) := by rw [← hH1, Array.getElem?_push_size, ← arrV_new]
  have o1 : ∀ q : Nat, q < H.size → H1[q]? = H[q]? := fun q hq => by rw [← hH1, Array.getElem?_push, if_neg (Nat.ne_of_lt hq)]
  rw [h1] at z1 e1 o1 ⊢
  refine kk H1 ((List.append_assoc L M _) ▸ hW.push (by rw [z1, hz]) (by rw [hz]; exact e1) (by rw [hz]; exact o1)) ⟨Nat.le_trans hS.1 (by rw [z1, h1]; exact Nat.le_succ _), fun x h3 h2 => ?_, hS.2.2⟩
  exact (o1 x (Nat.lt_of_lt_of_le h3 (by rw [← h1]; exact hS.1))).trans (hS.2.1 x h3 h2)
theorem p_aast (hx : p.tables.exec = Jvm.exec) (hb : c.code = cc) (hK : Ks E s) (hW : PB E (L ++ M) H) (hS : va_S (Ah E) s.heap H locs) (ha : L.length = a) (i j : Nat) {n : Nat} {f : Nat → Option Nat} {fs : List Value} (hc : M[i]? = some (.inl (eS E, n, .inr (.inr (.inr (.inr f)))))) (hv : M[j]? = some (.inr (3, fs))) {z : Int32} (hin : vp_in z n) (hdg : decode cc pc = .ok (.aastore, 1))
    (kk : ∀ (H1 : Heap) (locs1 : List Loc), PB E (L ++ M.set i (.inl (eS E, n, .inr (.inr (.inr (.inr (va_up f z.toNatClampNeg (some (eh E + (a + j)))))))))) H1 → va_S (Ah E) s.heap H1 locs1 → W p l e R s mi args below meth c H1 locs1 cells slots Q (F0 mi (pc + 1) ls rest)) : W p l e R s mi args below meth c H locs cells slots Q (F0 mi pc ls (rf E (a + j) :: .int z :: rf E (a + i) :: rest)) := by
  have hlt : z.toNatClampNeg < n := Nat.not_le.mp fun q => hin (Or.inr q)
  have h0 : ¬ z < 0 := fun q => hin (Or.inl q)
  have hP := hW.2 _ _ (pb_get ha hc)
  obtain ⟨r', hr', cellV, g1, g2, g3, -⟩ := hW.2 _ _ (pb_get ha hv)
  have hcls := (hK.1.1 3 (RX3, TX3, 8) rfl).2
  obtain ⟨kA, comp, k1, k2, k3, -⟩ := (hK.1.2 1 (eS E, .object "AmendsLedger$State") rfl).2
  have hcomp : comp = (eD E).1 3 := Option.some.inj (k3.symm.trans hcls.1)
  subst hcomp
  have hcls2 := hcls.2
  obtain ⟨kC, hkC, -⟩ := hcls2
  refine W.aast hx hb hP (fun q h => by cases h) (fun h => by cases h) k1 k2 rfl hkC ⟨h0, by show _ < (arrV _ _ _).slots.size; rw [arrV_size]; exact hlt⟩ g1 (fun q h => by rw [g3] at h; cases h) (by rw [g2]; exact hkC) (by rw [g2]; exact va_assign hcls) rfl rfl hdg fun H1 e z1 oq => ?_
  refine kk H1 _ ((pb_set ha) ▸ hW.set ?_ z1 oq) (hS.put z1 oq (Nat.le_add_right _ _))
  show H1[eh E + (a + i)]? = some (vp_cell _ _)
  rw [e]
  rw [vp_cell_q, vp_cell_q, arrV_store]
  congr 2
  funext q
  unfold updV va_up
  split <;> rfl
theorem p_putF (hx : p.tables.exec = Jvm.exec) (hb : c.code = cc) (hB : ∀ w ∈ BG, w.before args s = true) (hK : Ks E s) {C : String} {T : u_T} {N ci index : Nat} (hin : ∀ w ∈ u_ws C T N, w ∈ BG) (ty0 : Nat → FieldType) (hty : ∀ k, k < N → parseFieldDescriptor (T k).2.2.1 = some (ty0 k)) (hnm : ∀ a, a < N → ∀ b, b < N → a ≠ b → (T a).2.1 ≠ (T b).2.1) (hown : s.vm.findClass C = some mi.cls) (hW : PB E (L ++ M) H) (hS : va_S (Ah E) s.heap H locs) (ha : L.length = a) (i : Nat) {fs : List Value} (hc : M[i]? = some (.inr (ci, fs))) (hcl : vwCl[ci]? = some (C, T, N)) (j : Nat) (hj : j < N) (hT : (T j).1 = C) (hfin : (T j).2.2.2 = true) (hin2 : meth.name = "<init>") (hlink : Cond.fieldLink C index C (T j).2.1 (T j).2.2.1 ∈ BG) {ty : FieldType} {v : Value} (hd : parseFieldDescriptor (T j).2.2.1 = some ty) (hn : narrow ty v = v) (hfit : fits ty v = true) (hl : j < fs.length) (hdg : decode cc pc = .ok (.putfield index, 3))
    (kk : ∀ (H1 : Heap) (locs1 : List Loc), PB E (L ++ M.set i (.inr (ci, fs.set j v))) H1 → va_S (Ah E) s.heap H1 locs1 → W p l e R s mi args below meth c H1 locs1 cells slots Q (F0 mi (pc + 3) ls rest)) : W p l e R s mi args below meth c H locs cells slots Q (F0 mi pc ls (v :: rf E (a + i) :: rest)) := by
  have hap := va_apart (own := C) hB hin ty0 hty hnm hK.1 hcl
  obtain ⟨r, h1, cell, q1, q2, q3, q4⟩ := hW.2 _ _ (pb_get ha hc)
  have hr : r = (C, T, N) := Option.some.inj (h1.symm.trans hcl)
  subst hr
  obtain ⟨hSl, hfc, kC, hkC, hkind⟩ := hK.1.1 ci _ hcl
  obtain ⟨cf, kf, fi, f, hi, hsl⟩ := hSl j hj
  have hlay := hB _ (hin _ (u_in_lay hj))
  unfold u_lay at hlay
  rw [if_pos hfin] at hlay
  have hst := (u_facts hfc hkC (u_lays hB hin hj) hi).1
  have hcf : mi.cls = cf := by
    obtain ⟨_, _, c', _, _, _, -, -, hf', -, -, -, hown2, -⟩ := Cond.laysFinal_spec hlay
    have e1 : c' = cf := by have := hi.symm.trans hf'; simp at this; exact this.1.symm
    rw [hT] at hown2
    rw [← e1]; exact Option.some.inj (hown.symm.trans hown2)
  have h6 := u_fits hfc hkC hkind (Or.inr hlay) hi hd hn hfit
  refine W.putFinK hx hb hown (hB _ hlink) (by rw [← hT]; exact hi) hst hcf hin2 (by rw [q2]; exact h6) q1 q3 (by rw [hsl]; exact k2_hasslot (q4 j hj)) rfl rfl hdg fun H' e1 e2 e3 => ?_
  rw [hsl] at e1 ⊢
  exact kk H' _ ((pb_set ha) ▸ hW.set ⟨_, hcl, t_OB.to (V := updV (vp_V fs) j v) ⟨_, e1, q2, q3, t_set q4 hap hj v⟩ (fun j _ => vp_updV_set hl v j)⟩ e2 e3) (hS.put e2 e3 (Nat.le_add_right _ _))
theorem p_get (hx : p.tables.exec = Jvm.exec) (hb : c.code = cc) (hB : ∀ w ∈ BG, w.before args s = true) (hK : Ks E s) {C : String} {T : u_T} {N ci index : Nat} (hin : ∀ w ∈ u_ws C T N, w ∈ BG) (hown : s.vm.findClass C = some mi.cls) (hW : PB E (L ++ M) H) (ha : L.length = a) (i : Nat) {fs : List Value} (hc : M[i]? = some (.inr (ci, fs))) (hcl : vwCl[ci]? = some (C, T, N)) (j : Nat) (hj : j < N) (hT : (T j).1 = C) (hlink : Cond.fieldLink C index C (T j).2.1 (T j).2.2.1 ∈ BG) {v : Value} (hv : fs[j]? = some v) (hdg : decode cc pc = .ok (.getfield index, 3))
    (kk : W p l e R s mi args below meth c H locs cells slots Q (F0 mi (pc + 3) ls (v :: rest))) : W p l e R s mi args below meth c H locs cells slots Q (F0 mi pc ls (rf E (a + i) :: rest)) :=
  va_get (own := C) (ref := C) (ci := ci) (ws := [(eh E + (a + i), .inr (ci, fs))]) (C := C) (T := T) (N := N) hx hb hB hin hown hK.1 (hW.at (pb_get ha hc)) 0 rfl hcl j hj (hB _ hlink) (fun _ h9 => by rw [hT] at h9; exact h9) hv hdg kk
theorem p_iastL (hx : p.tables.exec = Jvm.exec) (hb : c.code = cc) (hK : Ks E s) (hW : PB E L H) (hS : va_S (Ah E) s.heap H locs) {k n : Nat} {f : Nat → Int32} (hc : L[k]? = some (ar E n f)) {z v : Int32} {i : Nat} (hz : z.toNatClampNeg = i) (hin : vp_in z n) (hdg : decode cc pc = .ok (.iastore, 1))
    (kk : ∀ (H1 : Heap) (locs1 : List Loc), PB E (L.set k (ar E n (upd f i v))) H1 → va_S (Ah E) s.heap H1 locs1 → W p l e R s mi args below meth c H1 locs1 cells slots Q (F0 mi (pc + 1) ls rest)) : W p l e R s mi args below meth c H locs cells slots Q (F0 mi pc ls (.int v :: .int z :: rf E k :: rest)) := by
  subst hz
  have hP := hW.2 _ _ hc
  have ht : (tyE E)[0]? = some (eI E, FieldType.int) := rfl
  refine W.iast hx hb hP ((hK.1.2 0 _ ht).1 n (fun j => .int (f j))) (fun q => by cases q) (by show ¬ (z < 0 ∨ (arrV _ _ _).slots.size ≤ _); rw [arrV_size]; exact hin) rfl rfl hdg fun H1 e z1 oq => ?_
  refine kk H1 _ (hW.set ?_ z1 oq) (hS.put z1 oq (Nat.le_add_right _ _))
  show H1[eh E + k]? = some (vp_cell _ _)
  rw [e, vp_cell_i, vp_cell_i, arrV_store]
  refine congrArg some (arrV_congr (fun q _ => ?_))
  unfold updV upd
  split <;> rfl
theorem p_iast (hx : p.tables.exec = Jvm.exec) (hb : c.code = cc) (hK : Ks E s) (hW : PB E (L ++ M) H) (hS : va_S (Ah E) s.heap H locs) (ha : L.length = a) (i : Nat) {n : Nat} {f : Nat → Int32} (hc : M[i]? = some (ar E n f)) {z v : Int32} {k : Nat} (hz : z.toNatClampNeg = k) (hin : vp_in z n) (hdg : decode cc pc = .ok (.iastore, 1))
    (kk : ∀ (H1 : Heap) (locs1 : List Loc), PB E (L ++ M.set i (ar E n (upd f k v))) H1 → va_S (Ah E) s.heap H1 locs1 → W p l e R s mi args below meth c H1 locs1 cells slots Q (F0 mi (pc + 1) ls rest)) : W p l e R s mi args below meth c H locs cells slots Q (F0 mi pc ls (.int v :: .int z :: rf E (a + i) :: rest)) :=
  p_iastL hx hb hK hW hS (pb_get ha hc) hz hin hdg (fun H1 locs1 hW hS => kk H1 locs1 ((pb_set ha) ▸ hW) hS)
theorem p_alen (hx : p.tables.exec = Jvm.exec) (hb : c.code = cc) (hK : Ks E s) (hW : PB E L H) {k n : Nat} {f : Nat → Int32} (hc : L[k]? = some (ar E n f)) {v : Int32} (hv : Int32.ofNat n = v) (hdg : decode cc pc = .ok (.arraylength, 1))
    (kk : W p l e R s mi args below meth c H locs cells slots Q (F0 mi (pc + 1) ls (.int v :: rest))) : W p l e R s mi args below meth c H locs cells slots Q (F0 mi pc ls (rf E k :: rest)) :=
  va_alen (D := eD E) (cl := vwCl) (tys := tyE E) (ws := [(eh E + k, ar E n f)]) (x := (n, .inl f)) hx hb hK.1 (hW.at hc) 0 0 rfl rfl hv hdg kk
theorem pcc_blind {As : List Value} {W0 : Heap → Prop} : FrameBlind (va_Pc As (fun U => Kc E U ∧ W0 U.heap)) := fun _ _ _ _ h => ⟨h.1, h.2.1.same rfl rfl, h.2.2⟩
theorem pcc_go {As : List Value} {W0 : Heap → Prop} (hK : Kc E s) (hS : va_S (Ah E) s.heap H locs) (hW : W0 H) : ∀ U : State, U.heap = H → s.WarmedH U.vm → va_Pc As (fun U => Kc E U ∧ W0 U.heap) As.toArray U := fun U hU hw => ⟨rfl, hK.go hw hS hU, by rw [hU]; exact hW⟩
theorem c_run2 {W1 : Heap → Prop} {mc ms : Nat} {ax : Array Value} {st0 : List Value} (hr : va_Run p l e R s mi args below meth c H locs cells slots mc ms (F0 mi pc ls st0) rest (QG E W1 none ax) (Ah E)) (hS : va_S (Ah E) s.heap H locs)
    (kk : ∀ (H1 : Heap) (locs1 : List Loc), W1 H1 → va_S (Ah E) s.heap H1 locs1 → W p l e R s mi args below meth c H1 locs1 (cells + mc) (slots + ms) Q (F0 mi (pc + 3) ls rest)) : W p l e R s mi args below meth c H locs cells slots Q (F0 mi pc ls st0) := by
  intro T hT X
  obtain ⟨v, st₀, t, T', L, h0, X', hL, e1, e2, ⟨hv, hw, hz, hk⟩, st⟩ := hr T hT X
  cases hv
  rw [h0] at hz hk
  obtain ⟨t2, a1, b1⟩ := kk T'.heap (locs ++ L) (by rw [e1]; exact hw)
    ⟨Nat.le_trans hS.1 (by rw [e1]; exact hz), fun q h1 h2 => by rw [e1, hk q (Nat.lt_of_lt_of_le h1 hS.1) h2]; exact hS.2.1 q h1 h2, fun q hq => by
      rcases List.mem_append.mp hq with h | h
      · exact hS.2.2 q h
      · exact hL q h⟩ T' rfl X'
  exact ⟨t2, st t2 a1, b1⟩
variable {y : MethodName} {b : ByteArray} {n nL d mc ms : Nat} {As st0 : List Value} {W0 W1 : Heap → Prop} {own host : String} {index k : Nat}
theorem c_I (hM : MC l E y b n d mc ms [.ref k] W0 W1) (cw : CallB R s args own index y b n none (wsM y b n none) (rmC d mc ms) mc ms 0 ∧ y.name = "<init>" ∧ (Cond.instanceMethod y).before args s = true) (hx : p.tables.exec = Jvm.exec) (hb : c.code = cc) (hml : c.maxLocals = nL) (hown : s.vm.findClass own = some mi.cls) (hB : ∀ w ∈ BG, w.before args s = true) (hK : Kc E s) (hW : W0 H) (hS : va_S (Ah E) s.heap H locs) (hc : cells + mc ≤ R.cells ∧ slots + ms ≤ R.slots) (hsize : ls.size = nL) (hroom : (rest.map fun v => v.category).sum ≤ 8) (hdg : decode cc pc = .ok (.invokespecial index, 3))
    (kk : ∀ (H1 : Heap) (locs1 : List Loc), W1 H1 → va_S (Ah E) s.heap H1 locs1 → W p l e R s mi args below meth c H1 locs1 (cells + mc) (slots + ms) Q (F0 mi (pc + 3) ls rest)) : W p l e R s mi args below meth c H locs cells slots Q (F0 mi pc ls (.ref k :: rest)) :=
  c_run2 (va_runI (Ts := BG) (As := []) (rest := rest) ⟨hx, hb, hml, hown, hB⟩ hM cw ⟨pcc_blind, pcc_go hK hS hW⟩ rfl rfl hsize rfl (lv_room hroom) hdg hc) hS kk
theorem c_IN (hM : MC l E y b n d mc ms [.ref k] W0 W1) (cw : va_CN R s args own index y host b n none (wsM y b n none) (rmC d mc ms) mc ms 0 ∧ y.name = "<init>" ∧ (Cond.instanceMethod y).before args s = true) (hx : p.tables.exec = Jvm.exec) (hb : c.code = cc) (hml : c.maxLocals = nL) (hown : s.vm.findClass own = some mi.cls) (hB : ∀ w ∈ BG, w.before args s = true) (hK : Kc E s) (hW : W0 H) (hS : va_S (Ah E) s.heap H locs) (hc : cells + mc ≤ R.cells ∧ slots + ms ≤ R.slots) (hsize : ls.size = nL) (hroom : (rest.map fun v => v.category).sum ≤ 8) (hdg : decode cc pc = .ok (.invokespecial index, 3))
    (kk : ∀ (H1 : Heap) (locs1 : List Loc), W1 H1 → va_S (Ah E) s.heap H1 locs1 → W p l e R s mi args below meth c H1 locs1 (cells + mc) (slots + ms) Q (F0 mi (pc + 3) ls rest)) : W p l e R s mi args below meth c H locs cells slots Q (F0 mi pc ls (.ref k :: rest)) :=
  c_run2 (va_runIN (Ts := BG) (As := []) (rest := rest) ⟨hx, hb, hml, hown, hB⟩ hM cw ⟨pcc_blind, pcc_go hK hS hW⟩ rfl rfl hsize rfl (lv_room hroom) hdg hc) hS kk
theorem kw_I (hB : ∀ w ∈ BG, w.before args s = true) (hcode : Cond.code y b n none ∈ BG) (hini : Cond.initialized y.cls ∈ BG) (hl : Cond.methodLink own index y ∈ BG) (hin : Cond.instanceMethod y ∈ BG) (hn : y.name = "<init>") (hd : y.cls ≠ "java/lang/invoke/MethodHandle" ∧ y.cls ≠ "java/lang/invoke/VarHandle" ∧ (parseMethodDescriptor y.desc).map (fun d => d.parameters.length) = some 0) (hR : (rmC d mc ms).frames + 1 ≤ R.frames ∧ 8 + (n + 11) + (rmC d mc ms).locals ≤ R.locals) :
    CallB R s args own index y b n none (wsM y b n none) (rmC d mc ms) mc ms 0 ∧ y.name = "<init>" ∧ (Cond.instanceMethod y).before args s = true :=
  ⟨callB_of 0 hB (wsM_good hcode) rfl rfl rfl (hB _ hini) (hB _ hl) hd hR, hn, hB _ hin⟩
theorem kw_IN (hB : ∀ w ∈ BG, w.before args s = true) (hK : Kc E s) (hcode : Cond.code y b n none ∈ BG) (hini : Cond.initialized y.cls ∈ BG) (hl : Cond.methodLinkNest own index y host ∈ NW) (hin : Cond.instanceMethod y ∈ BG) (hn : y.name = "<init>") (hd : y.cls ≠ "java/lang/invoke/MethodHandle" ∧ y.cls ≠ "java/lang/invoke/VarHandle" ∧ (parseMethodDescriptor y.desc).map (fun d => d.parameters.length) = some 0) (hR : (rmC d mc ms).frames + 1 ≤ R.frames ∧ 8 + (n + 11) + (rmC d mc ms).locals ≤ R.locals) :
    va_CN R s args own index y host b n none (wsM y b n none) (rmC d mc ms) mc ms 0 ∧ y.name = "<init>" ∧ (Cond.instanceMethod y).before args s = true :=
  ⟨va_cnB 0 hB (wsM_good hcode) rfl rfl rfl (hK.1.nw hl) (hB _ hini) hd hR, hn, hB _ hin⟩
theorem p_copyT (hx : p.tables.exec = Jvm.exec) (hb : c.code = cc) (hml : c.maxLocals = ls.size) (hown : s.vm.findClass RX4 = some mi.cls) (hB : ∀ w ∈ BG, w.before args s = true) (hK : Ks E s) (hW : PB E L H) (hS : va_S (Ah E) s.heap H locs) {t : Nat} {f g : Nat → Int32} (hT : va_T .int t 3 (fun j => .int (f j)) (Ah E) s s.heap) (hc : L[k]? = some (ar E 3 g)) (hf : 1 ≤ R.frames) (hl : 28 ≤ R.locals) (hdg : decode cc pc = .ok (.invokestatic 332, 3))
    (kk : ∀ (H1 : Heap) (locs1 : List Loc), PB E (L.set k (ar E 3 f)) H1 → va_S (Ah E) s.heap H1 locs1 → W p l e R s mi args below meth c H1 locs1 cells slots Q (F0 mi (pc + 3) ls [])) : W p l e R s mi args below meth c H locs cells slots Q (F0 mi pc ls [.int 3, .int 0, rf E k, .int 0, .ref t]) := by
  intro T hT0 X
  obtain ⟨scr, hs1, hs2, hs3, hs4, -, hs5, hs7⟩ := hT
  have hc0 : H[t]? = some scr := by rw [hS.2.1 t (Array.getElem?_eq_some_iff.mp hs1).1 hs7]; exact hs1
  have hc1 : H[eh E + k]? = some (vp_cell (eI E) (3, .inl g)) := hW.2 k _ hc
  obtain ⟨hs6, k0, hk0, cm0, hkk0⟩ := hs2
  obtain ⟨-, k1, hk1, cm1, hkk1⟩ := (hK.1.2 0 (eI E, .int) rfl).1 3 (fun j => .int (g j))
  have e3 : (3 : Int32).toNatClampNeg = 3 := by decide
  have e0 : (0 : Int32).toNatClampNeg = 0 := by decide
  have i3 : (3 : Int32).toInt = 3 := by decide
  have i0 : (0 : Int32).toInt = 0 := by decide
  obtain ⟨vm', X', step⟩ := X.arraycopy hx hown (hB _ q_185) (hB _ q_187) (hB _ q_186) (hB _ q_65) (src := t) (dst := eh E + k) (cs := scr) (cd := vp_cell (eI E) (3, .inl g)) (srcPos := 0) (destPos := 0) (n := 3) (by rw [hT0]; exact hc0) (by rw [hT0]; exact hc1)
    hs6 (fun _ h => by cases h) hs3 (fun h => by cases h) hk0 hk1 hkk0 hkk1 (by simp [refKind]) (by decide) (by decide) (by decide)
    (by rw [i0, i3]; omega)
    (by rw [i0, i3]; show ¬ _ > ((arrV (eI E) 3 (fun j => .int (g j))).slots.size : Int); rw [arrV_size]; decide)
    (fun vm₁ _ i hi => by
      rw [e3] at hi
      rw [e0]
      have e : scr.slots.getD (0 + i) .null = .int (f (0 + i)) := by
        rw [Array.getD_eq_getD_getElem?, hs5 _ (by omega)]
        rfl
      refine ⟨?_, ?_⟩
      · rw [e]
        rfl
      · rw [e]
        exact trivial)
    (g := F0 mi pc ls [.int 3, .int 0, rf E k, .int 0, .ref t]) rfl (by rw [hml]) (rest := []) rfl (by rw [hb]; exact hdg) hf (by have hw : nativeFrameWords "java/lang/System" "arraycopy" 5 + 11 ≤ 28 := (by decide); show 2 * 0 + 0 + _ ≤ _; omega)
  have e1 : copied scr (vp_cell (eI E) (3, .inl g)) 0 0 3 = vp_cell (eI E) (3, .inl (va_cpy f g 0 0 3)) := va_copiedX (fun z => .int z) scr (eI E) (n0 := 3) f g (fun j hj => hs5 j hj) (by decide)
  rw [e1] at X' step
  have e2 : vp_cell (eI E) (3, .inl (va_cpy f g 0 0 3)) = vp_cell (eI E) (3, .inl f) := by
    rw [vp_cell_i, vp_cell_i]
    refine arrV_congr (fun j hj => ?_)
    rw [pk_cpy_in (Nat.zero_le _) (by omega), Nat.zero_add, Nat.sub_zero]
  rw [e2] at X' step
  have hl2 : eh E + k < H.size := (Array.getElem?_eq_some_iff.mp hc1).1
  have hheap : ((T.setVm vm').setCell (eh E + k) (vp_cell (eI E) (3, .inl f))).heap = H.setIfInBounds (eh E + k) (vp_cell (eI E) (3, .inl f)) := by rw [← hT0]; rfl
  have oq : ∀ q : Nat, q ≠ eh E + k → (H.setIfInBounds (eh E + k) (vp_cell (eI E) (3, .inl f)))[q]? = H[q]? := fun q hq => by simp [Array.getElem?_setIfInBounds, Ne.symm hq]
  obtain ⟨t2, a1, b1⟩ := kk _ _ (hW.set (show (H.setIfInBounds (eh E + k) _)[eh E + k]? = some _ by simp [Array.getElem?_setIfInBounds, hl2]) (by simp) oq) ⟨by simp; exact hS.1, fun q g1 g2 => by
      rw [oq q (fun e => g2 (by rw [e]; exact Nat.le_add_right _ _))]
      exact hS.2.1 q g1 g2, fun q hq => by
      rcases List.mem_append.mp hq with h | h
      · exact hS.2.2 q h
      · obtain ⟨z, -, hz⟩ := List.mem_map.mp h
        rw [← hz]
        exact Nat.le_add_right _ _⟩ _ hheap X'
  exact ⟨t2, step t2 a1, b1⟩
end MK
theorem PB.selfset {E : TE} {L : List va_E} {H : Heap} {k : Nat} {q : va_E} (hc : L[k]? = some q) (hW : PB E L H) : PB E (L.set k q) H := by
  refine ⟨by rw [List.length_set]; exact hW.1, fun j r hj => ?_⟩
  by_cases h : k = j
  · subst h
    have hl : k < (L.set k q).length := (List.getElem?_eq_some_iff.mp hj).1
    rw [List.getElem?_set_self (by simpa using hl)] at hj
    cases hj
    exact hW.2 _ _ hc
  · rw [List.getElem?_set_ne h] at hj
    exact hW.2 j r hj
theorem PB.arr {E : TE} {L : List va_E} {H : Heap} {k n : Nat} {f1 f2 : Nat → Int32} (he : ∀ j, j < n → f1 j = f2 j) (hW : PB E (L.set k (ar E n f1)) H) : PB E (L.set k (ar E n f2)) H := by
  refine ⟨by rw [List.length_set]; have := hW.1; rwa [List.length_set] at this, fun j r hj => ?_⟩
  by_cases h : k = j
  · subst h
    have hl : k < (L.set k (ar E n f2)).length := (List.getElem?_eq_some_iff.mp hj).1
    rw [List.getElem?_set_self (by simpa using hl)] at hj
    cases hj
    have h9 : H[eh E + k]? = some (vp_cell (eI E) (n, .inl f1)) := hW.2 k (ar E n f1) (List.getElem?_set_self (by simpa using hl))
    show H[eh E + k]? = some (vp_cell (eI E) (n, .inl f2))
    rw [h9, vp_cell_i, vp_cell_i]
    exact congrArg some (arrV_congr (fun j hj => by rw [he j hj]))
  · rw [List.getElem?_set_ne h] at hj
    exact hW.2 j r (by rw [List.getElem?_set_ne h]; exact hj)
theorem dJ7_fill_53178_0 : decode cJ7_fill_53178 0 = .ok (.iconst 0, 1) := by decide +kernel
theorem dJ7_fill_53178_1 : decode cJ7_fill_53178 1 = .ok (.istore_n 2, 1) := by decide +kernel
theorem dJ7_fill_53178_2 : decode cJ7_fill_53178 2 = .ok (.aload_n 0, 1) := by decide +kernel
theorem dJ7_fill_53178_3 : decode cJ7_fill_53178 3 = .ok (.arraylength, 1) := by decide +kernel
theorem dJ7_fill_53178_4 : decode cJ7_fill_53178 4 = .ok (.istore_n 3, 1) := by decide +kernel
theorem dJ7_fill_53178_5 : decode cJ7_fill_53178 5 = .ok (.iload_n 2, 1) := by decide +kernel
theorem dJ7_fill_53178_6 : decode cJ7_fill_53178 6 = .ok (.iload_n 3, 1) := by decide +kernel
theorem dJ7_fill_53178_7 : decode cJ7_fill_53178 7 = .ok (.if_icmp .ge 13, 3) := by decide +kernel
theorem dJ7_fill_53178_10 : decode cJ7_fill_53178 10 = .ok (.aload_n 0, 1) := by decide +kernel
theorem dJ7_fill_53178_11 : decode cJ7_fill_53178 11 = .ok (.iload_n 2, 1) := by decide +kernel
theorem dJ7_fill_53178_12 : decode cJ7_fill_53178 12 = .ok (.iload_n 1, 1) := by decide +kernel
theorem dJ7_fill_53178_13 : decode cJ7_fill_53178 13 = .ok (.iastore, 1) := by decide +kernel
theorem dJ7_fill_53178_14 : decode cJ7_fill_53178 14 = .ok (.iinc 2 1, 3) := by decide +kernel
theorem dJ7_fill_53178_17 : decode cJ7_fill_53178 17 = .ok (.goto (-12), 3) := by decide +kernel
theorem dJ7_fill_53178_20 : decode cJ7_fill_53178 20 = .ok (.return_, 1) := by decide +kernel
set_option maxRecDepth 100000 in
set_option maxHeartbeats 4000000 in
theorem m_fill (l : Launch) (E : TE) {L : List va_E} {k n : Nat} {f : Nat → Int32} (v : Int32) (hn : n < 65) (hc : L[k]? = some (ar E n f)) : MG l E yJ7_fill_53178 cJ7_fill_53178 4 none 0 [rf E k, .int v] (PB E L) (PB E (L.set k (ar E n (fun _ => v)))) none := by
  refine m_in (by decide) (Nat.le_of_ble_eq_true rfl) ?_
  intro p e s mi args below meth c H ls hx hb hr hlk hml hown hB hK hW hS hl
  have hl : lv_has ls 4 [(0, rf E k), (1, .int v)] := hl
  have hkl : k < L.length := (List.getElem?_eq_some_iff.mp hc).1
  have loop : ∀ (q i : Nat) (f1 : Nat → Int32) (H : Heap) (locs : List Loc) (ls : Array Slot), n = i + q → (∀ j, j < i → f1 j = v) → PB E (L.set k (ar E n f1)) H → va_S (Ah E) s.heap H locs → lv_has ls 4 [(2, .int (nI i)), (3, .int (nI n)), (0, rf E k), (1, .int v)] → W p l e (rmH 0) s mi args below meth c H locs 0 0 (EQ E below args s (PB E (L.set k (ar E n (fun _ => v)))) none) (F0 mi 5 ls []) := by
    intro q
    induction q with
    | zero =>
      intro i f1 H locs ls hq hf hW hS hl
      refine lv_iload_n hx hb dJ7_fill_53178_5 rfl (lv_at hl 0 rfl) ?_
      refine lv_iload_n hx hb dJ7_fill_53178_6 rfl (lv_at hl 1 rfl) ?_
      refine lv_icmp_ge (tgt := 20) hx hb dJ7_fill_53178_7 (by decide) (fun _ => ?_) (fun c1 => absurd (nI_le (by omega) (by omega)) c1)
      exact e_v hx hb hr hlk (hW.arr (fun j hj => hf j (by omega))) hS dJ7_fill_53178_20
    | succ q ih =>
      intro i f1 H locs ls hq hf hW hS hl
      refine lv_iload_n hx hb dJ7_fill_53178_5 rfl (lv_at hl 0 rfl) ?_
      refine lv_iload_n hx hb dJ7_fill_53178_6 rfl (lv_at hl 1 rfl) ?_
      refine lv_icmp_ge (tgt := 20) hx hb dJ7_fill_53178_7 (by decide) (fun c1 => absurd c1 (nI_ge (by omega) (by omega))) (fun _ => ?_)
      refine lv_aload_n hx hb dJ7_fill_53178_10 rfl (lv_at hl 2 rfl) ?_
      refine lv_iload_n hx hb dJ7_fill_53178_11 rfl (lv_at hl 0 rfl) ?_
      refine lv_iload_n hx hb dJ7_fill_53178_12 rfl (lv_at hl 3 rfl) ?_
      refine p_iastL hx hb hK hW hS (i := i) (by rw [List.getElem?_set_self hkl]) (nI_clamp (by omega)) (vp_in_nI (by omega) (by omega)) dJ7_fill_53178_13 (fun H locs hW hS => ?_)
      rw [List.set_set] at hW
      refine lv_iinc (v := nI (i + 1)) (lv' := [(2, .int (nI (i + 1))), (3, .int (nI n)), (0, rf E k), (1, .int v)]) hx hb dJ7_fill_53178_14 hl (k := 0) rfl (nI_1 i) (by decide) rfl (fun ls hl => ?_)
      refine lv_goto (tgt := 5) hx hb dJ7_fill_53178_17 (by decide) ?_
      refine ih (i + 1) (upd f1 i v) H locs ls (by omega) (fun j hj => ?_) hW hS hl
      by_cases h : j = i
      · subst h; exact pk_us
      · rw [pk_un h]; exact hf j (by omega)
  refine lv_iconst (v := 0) hx hb dJ7_fill_53178_0 (by decide) ?_
  refine lv_istore_n (lv' := [(2, .int 0), (0, rf E k), (1, .int v)]) hx hb dJ7_fill_53178_1 rfl hl (by decide) rfl (fun ls hl => ?_)
  refine lv_aload_n hx hb dJ7_fill_53178_2 rfl (lv_at hl 1 rfl) ?_
  refine p_alen hx hb hK hW hc rfl dJ7_fill_53178_3 ?_
  refine lv_istore_n (lv' := [(3, .int (nI n)), (2, .int 0), (0, rf E k), (1, .int v)]) hx hb dJ7_fill_53178_4 rfl hl (by decide) rfl (fun ls hl => ?_)
  refine loop n 0 f H [] ls (by omega) (fun j hj => absurd hj (Nat.not_lt_zero j)) (hW.selfset hc) hS ?_
  exact lv_sub hl [1, 0, 2, 3] rfl
set_option maxRecDepth 100000 in
set_option maxHeartbeats 4000000 in
theorem m_copy (l : Launch) (E : TE) {L : List va_E} {k : Nat} {g : Nat → Int32} (hc : L[k]? = some (ar E 3 g)) : MG l E yX4_copyAll cX4_copyAll 2 none 2 [.ref (eF E), rf E k] (PB E L) (PB E (L.set k (ar E 3 fF))) none := by
  refine m_in (by decide) (Nat.le_of_ble_eq_true rfl) ?_
  intro p e s mi args below meth c H ls hx hb hr hlk hml hown hB hK hW hS hl
  have hl : lv_has ls 2 [(0, .ref (eF E)), (1, rf E k)] := hl
  have hT := hK.2.2.1.1.2
  refine lv_aload_n hx hb dX4_copyAll_0 rfl (lv_at hl 0 rfl) ?_
  refine lv_iconst (v := 0) hx hb dX4_copyAll_1 (by decide) ?_
  refine lv_aload_n hx hb dX4_copyAll_2 rfl (lv_at hl 1 rfl) ?_
  refine lv_iconst (v := 0) hx hb dX4_copyAll_3 (by decide) ?_
  refine lv_aload_n hx hb dX4_copyAll_4 rfl (lv_at hl 0 rfl) ?_
  refine va_tlen hx hb hT hS (v := 3) (by decide) dX4_copyAll_5 ?_
  refine lv_aload_n hx hb dX4_copyAll_6 rfl (lv_at hl 1 rfl) ?_
  refine p_alen hx hb hK hW hc (v := 3) (by decide) dX4_copyAll_7 ?_
  refine va_mmin hx hb (hml.trans hl.1.symm) hown (hB _ q_182) (hB _ q_183) (hB _ q_64) (hB _ q_184) (Nat.le_of_ble_eq_true rfl) (Nat.le_of_ble_eq_true rfl) (Nat.le_refl 0) (Nat.le_refl 0) dX4_copyAll_8 ?_
  refine lv_nm (v := 3) (by split <;> rfl) ?_
  refine p_copyT hx hb (hml.trans hl.1.symm) hown hB hK hW hS hT hc (Nat.le_of_ble_eq_true rfl) (Nat.le_of_ble_eq_true rfl) dX4_copyAll_11 (fun H locs hW hS => ?_)
  exact e_v hx hb hr hlk hW hS dX4_copyAll_14
set_option maxRecDepth 100000 in
set_option maxHeartbeats 4000000 in
theorem m_at (l : Launch) (E : TE) {L : List va_E} {a0 r : Int32} (hf : f_X5_at a0 = some r) : MG l E yX5_at cX5_at 1 (some .int) 0 [.int a0] (PB E L) (PB E L) (some (.int r)) := by
  unfold f_X5_at at hf
  refine m_in (by decide) (Nat.le_of_ble_eq_true rfl) ?_
  intro p e s mi args below meth c H ls hx hb hr hlk hml hown hB hK hW hS hl
  have hl : lv_has ls 1 [(0, .int a0)] := hl
  refine lv_bipush (v := 6) hx hb dX5_at_0 (by decide) ?_
  refine lv_bipush (v := 28) hx hb dX5_at_2 (by decide) ?_
  refine lv_iload_n hx hb dX5_at_4 rfl (lv_at hl 0 rfl) ?_
  refine lv_imul hx hb dX5_at_5 ?_
  refine lv_iadd hx hb dX5_at_6 ?_
  cases hf
  exact e_i hx hb hr hlk hW hS dX5_at_7
theorem dX1_init_0 : decode cX1_init 0 = .ok (.aload_n 0, 1) := by decide +kernel
theorem dX1_init_1 : decode cX1_init 1 = .ok (.invokespecial 3, 3) := by decide +kernel
theorem dX1_init_4 : decode cX1_init 4 = .ok (.aload_n 0, 1) := by decide +kernel
theorem dX1_init_5 : decode cX1_init 5 = .ok (.iconst 4, 1) := by decide +kernel
theorem dX1_init_6 : decode cX1_init 6 = .ok (.newarray .int, 2) := by decide +kernel
theorem dX1_init_8 : decode cX1_init 8 = .ok (.putfield 9, 3) := by decide +kernel
theorem dX1_init_11 : decode cX1_init 11 = .ok (.aload_n 0, 1) := by decide +kernel
theorem dX1_init_12 : decode cX1_init 12 = .ok (.bipush 24, 2) := by decide +kernel
theorem dX1_init_14 : decode cX1_init 14 = .ok (.newarray .int, 2) := by decide +kernel
theorem dX1_init_16 : decode cX1_init 16 = .ok (.putfield 15, 3) := by decide +kernel
theorem dX1_init_19 : decode cX1_init 19 = .ok (.aload_n 0, 1) := by decide +kernel
theorem dX1_init_20 : decode cX1_init 20 = .ok (.bipush 24, 2) := by decide +kernel
theorem dX1_init_22 : decode cX1_init 22 = .ok (.newarray .int, 2) := by decide +kernel
theorem dX1_init_24 : decode cX1_init 24 = .ok (.putfield 18, 3) := by decide +kernel
theorem dX1_init_27 : decode cX1_init 27 = .ok (.aload_n 0, 1) := by decide +kernel
theorem dX1_init_28 : decode cX1_init 28 = .ok (.bipush 24, 2) := by decide +kernel
theorem dX1_init_30 : decode cX1_init 30 = .ok (.newarray .int, 2) := by decide +kernel
theorem dX1_init_32 : decode cX1_init 32 = .ok (.putfield 21, 3) := by decide +kernel
theorem dX1_init_35 : decode cX1_init 35 = .ok (.aload_n 0, 1) := by decide +kernel
theorem dX1_init_36 : decode cX1_init 36 = .ok (.bipush 24, 2) := by decide +kernel
theorem dX1_init_38 : decode cX1_init 38 = .ok (.newarray .int, 2) := by decide +kernel
theorem dX1_init_40 : decode cX1_init 40 = .ok (.putfield 24, 3) := by decide +kernel
theorem dX1_init_43 : decode cX1_init 43 = .ok (.return_, 1) := by decide +kernel
set_option maxRecDepth 100000 in
set_option maxHeartbeats 4000000 in
theorem i_X1 (l : Launch) (E : TE) (L : List va_E) (a : Nat) (ha : L.length = a) : MC l E yX1_init cX1_init 1 1 5 100 [rf E a] (PB E (L ++ [.inr (1, [.null, .null, .null, .null, .null])])) (PB E (L ++ ([.inr (1, [rf E (a + 1), rf E (a + 2), rf E (a + 3), rf E (a + 4), rf E (a + 5)]), ar E 4 (fun _ => 0), ar E 24 (fun _ => 0), ar E 24 (fun _ => 0), ar E 24 (fun _ => 0), ar E 24 (fun _ => 0)]))) := by
  refine mk_in (by decide) (Nat.le_of_ble_eq_true rfl) ?_
  intro p e s mi args below meth c H ls hx hb hr hlk hml hown hin2 hB hK hW hS hl
  have hl : lv_has ls 1 [(0, rf E a)] := hl
  refine lv_aload_n hx hb dX1_init_0 rfl (lv_at hl 0 rfl) ?_
  refine W.objInit hx hb hown (hB _ qm_olX1) (hB _ qm_oiI) (hB _ qm_oiC) rfl (hl.1.trans hml.symm) rfl dX1_init_1 (Nat.le_of_ble_eq_true rfl) (Nat.le_of_ble_eq_true rfl) ?_
  show W p l e _ s mi args below meth c H [] 0 0 _ (F0 mi 4 ls [])
  refine lv_aload_n hx hb dX1_init_4 rfl (lv_at hl 0 rfl) ?_
  refine lv_iconst (v := 4) hx hb dX1_init_5 (by decide) ?_
  refine p_newi hx hb hB hK.1 hW hS (N := 4) (j := 1) (by decide) (by decide) (Nat.le_of_ble_eq_true rfl) (Nat.le_of_ble_eq_true rfl) (Nat.le_of_ble_eq_true rfl) ha rfl dX1_init_6 (fun H hW hS => ?_)
  have hW : PB E (L ++ ([.inr (1, [.null, .null, .null, .null, .null]), ar E 4 (fun _ => 0)])) H := hW
  refine p_putF hx hb hB hK.1 (C := RX1) (T := TX1) (N := 5) (ci := 1) inB_X1 tyX1 tyX1_ok nmX1 hown hW hS ha 0 rfl rfl 0 (by decide) rfl rfl hin2 q_95 (ty := (.array .int)) rfl rfl rfl (Nat.le_of_ble_eq_true rfl) dX1_init_8 (fun H locs hW hS => ?_)
  have hW : PB E (L ++ ([.inr (1, [rf E (a + 1), .null, .null, .null, .null]), ar E 4 (fun _ => 0)])) H := hW
  refine lv_aload_n hx hb dX1_init_11 rfl (lv_at hl 0 rfl) ?_
  refine lv_bipush (v := 24) hx hb dX1_init_12 (by decide) ?_
  refine p_newi hx hb hB hK.1 hW hS (N := 24) (j := 2) (by decide) (by decide) (Nat.le_of_ble_eq_true rfl) (Nat.le_of_ble_eq_true rfl) (Nat.le_of_ble_eq_true rfl) ha rfl dX1_init_14 (fun H hW hS => ?_)
  have hW : PB E (L ++ ([.inr (1, [rf E (a + 1), .null, .null, .null, .null]), ar E 4 (fun _ => 0), ar E 24 (fun _ => 0)])) H := hW
  refine p_putF hx hb hB hK.1 (C := RX1) (T := TX1) (N := 5) (ci := 1) inB_X1 tyX1 tyX1_ok nmX1 hown hW hS ha 0 rfl rfl 1 (by decide) rfl rfl hin2 q_96 (ty := (.array .int)) rfl rfl rfl (Nat.le_of_ble_eq_true rfl) dX1_init_16 (fun H locs hW hS => ?_)
  have hW : PB E (L ++ ([.inr (1, [rf E (a + 1), rf E (a + 2), .null, .null, .null]), ar E 4 (fun _ => 0), ar E 24 (fun _ => 0)])) H := hW
  refine lv_aload_n hx hb dX1_init_19 rfl (lv_at hl 0 rfl) ?_
  refine lv_bipush (v := 24) hx hb dX1_init_20 (by decide) ?_
  refine p_newi hx hb hB hK.1 hW hS (N := 24) (j := 3) (by decide) (by decide) (Nat.le_of_ble_eq_true rfl) (Nat.le_of_ble_eq_true rfl) (Nat.le_of_ble_eq_true rfl) ha rfl dX1_init_22 (fun H hW hS => ?_)
  have hW : PB E (L ++ ([.inr (1, [rf E (a + 1), rf E (a + 2), .null, .null, .null]), ar E 4 (fun _ => 0), ar E 24 (fun _ => 0), ar E 24 (fun _ => 0)])) H := hW
  refine p_putF hx hb hB hK.1 (C := RX1) (T := TX1) (N := 5) (ci := 1) inB_X1 tyX1 tyX1_ok nmX1 hown hW hS ha 0 rfl rfl 2 (by decide) rfl rfl hin2 q_97 (ty := (.array .int)) rfl rfl rfl (Nat.le_of_ble_eq_true rfl) dX1_init_24 (fun H locs hW hS => ?_)
  have hW : PB E (L ++ ([.inr (1, [rf E (a + 1), rf E (a + 2), rf E (a + 3), .null, .null]), ar E 4 (fun _ => 0), ar E 24 (fun _ => 0), ar E 24 (fun _ => 0)])) H := hW
  refine lv_aload_n hx hb dX1_init_27 rfl (lv_at hl 0 rfl) ?_
  refine lv_bipush (v := 24) hx hb dX1_init_28 (by decide) ?_
  refine p_newi hx hb hB hK.1 hW hS (N := 24) (j := 4) (by decide) (by decide) (Nat.le_of_ble_eq_true rfl) (Nat.le_of_ble_eq_true rfl) (Nat.le_of_ble_eq_true rfl) ha rfl dX1_init_30 (fun H hW hS => ?_)
  have hW : PB E (L ++ ([.inr (1, [rf E (a + 1), rf E (a + 2), rf E (a + 3), .null, .null]), ar E 4 (fun _ => 0), ar E 24 (fun _ => 0), ar E 24 (fun _ => 0), ar E 24 (fun _ => 0)])) H := hW
  refine p_putF hx hb hB hK.1 (C := RX1) (T := TX1) (N := 5) (ci := 1) inB_X1 tyX1 tyX1_ok nmX1 hown hW hS ha 0 rfl rfl 3 (by decide) rfl rfl hin2 q_98 (ty := (.array .int)) rfl rfl rfl (Nat.le_of_ble_eq_true rfl) dX1_init_32 (fun H locs hW hS => ?_)
  have hW : PB E (L ++ ([.inr (1, [rf E (a + 1), rf E (a + 2), rf E (a + 3), rf E (a + 4), .null]), ar E 4 (fun _ => 0), ar E 24 (fun _ => 0), ar E 24 (fun _ => 0), ar E 24 (fun _ => 0)])) H := hW
  refine lv_aload_n hx hb dX1_init_35 rfl (lv_at hl 0 rfl) ?_
  refine lv_bipush (v := 24) hx hb dX1_init_36 (by decide) ?_
  refine p_newi hx hb hB hK.1 hW hS (N := 24) (j := 5) (by decide) (by decide) (Nat.le_of_ble_eq_true rfl) (Nat.le_of_ble_eq_true rfl) (Nat.le_of_ble_eq_true rfl) ha rfl dX1_init_38 (fun H hW hS => ?_)
  have hW : PB E (L ++ ([.inr (1, [rf E (a + 1), rf E (a + 2), rf E (a + 3), rf E (a + 4), .null]), ar E 4 (fun _ => 0), ar E 24 (fun _ => 0), ar E 24 (fun _ => 0), ar E 24 (fun _ => 0), ar E 24 (fun _ => 0)])) H := hW
  refine p_putF hx hb hB hK.1 (C := RX1) (T := TX1) (N := 5) (ci := 1) inB_X1 tyX1 tyX1_ok nmX1 hown hW hS ha 0 rfl rfl 4 (by decide) rfl rfl hin2 q_99 (ty := (.array .int)) rfl rfl rfl (Nat.le_of_ble_eq_true rfl) dX1_init_40 (fun H locs hW hS => ?_)
  have hW : PB E (L ++ ([.inr (1, [rf E (a + 1), rf E (a + 2), rf E (a + 3), rf E (a + 4), rf E (a + 5)]), ar E 4 (fun _ => 0), ar E 24 (fun _ => 0), ar E 24 (fun _ => 0), ar E 24 (fun _ => 0), ar E 24 (fun _ => 0)])) H := hW
  exact e_c hx hb hr hlk hW hS dX1_init_43
theorem dX0_init_0 : decode cX0_init 0 = .ok (.aload_n 0, 1) := by decide +kernel
theorem dX0_init_1 : decode cX0_init 1 = .ok (.invokespecial 3, 3) := by decide +kernel
theorem dX0_init_4 : decode cX0_init 4 = .ok (.aload_n 0, 1) := by decide +kernel
theorem dX0_init_5 : decode cX0_init 5 = .ok (.bipush 24, 2) := by decide +kernel
theorem dX0_init_7 : decode cX0_init 7 = .ok (.newarray .int, 2) := by decide +kernel
theorem dX0_init_9 : decode cX0_init 9 = .ok (.putfield 9, 3) := by decide +kernel
theorem dX0_init_12 : decode cX0_init 12 = .ok (.aload_n 0, 1) := by decide +kernel
theorem dX0_init_13 : decode cX0_init 13 = .ok (.bipush 24, 2) := by decide +kernel
theorem dX0_init_15 : decode cX0_init 15 = .ok (.newarray .int, 2) := by decide +kernel
theorem dX0_init_17 : decode cX0_init 17 = .ok (.putfield 15, 3) := by decide +kernel
theorem dX0_init_20 : decode cX0_init 20 = .ok (.aload_n 0, 1) := by decide +kernel
theorem dX0_init_21 : decode cX0_init 21 = .ok (.bipush 24, 2) := by decide +kernel
theorem dX0_init_23 : decode cX0_init 23 = .ok (.newarray .int, 2) := by decide +kernel
theorem dX0_init_25 : decode cX0_init 25 = .ok (.putfield 18, 3) := by decide +kernel
theorem dX0_init_28 : decode cX0_init 28 = .ok (.aload_n 0, 1) := by decide +kernel
theorem dX0_init_29 : decode cX0_init 29 = .ok (.bipush 24, 2) := by decide +kernel
theorem dX0_init_31 : decode cX0_init 31 = .ok (.newarray .int, 2) := by decide +kernel
theorem dX0_init_33 : decode cX0_init 33 = .ok (.putfield 21, 3) := by decide +kernel
theorem dX0_init_36 : decode cX0_init 36 = .ok (.aload_n 0, 1) := by decide +kernel
theorem dX0_init_37 : decode cX0_init 37 = .ok (.bipush 24, 2) := by decide +kernel
theorem dX0_init_39 : decode cX0_init 39 = .ok (.newarray .int, 2) := by decide +kernel
theorem dX0_init_41 : decode cX0_init 41 = .ok (.putfield 24, 3) := by decide +kernel
theorem dX0_init_44 : decode cX0_init 44 = .ok (.aload_n 0, 1) := by decide +kernel
theorem dX0_init_45 : decode cX0_init 45 = .ok (.bipush 24, 2) := by decide +kernel
theorem dX0_init_47 : decode cX0_init 47 = .ok (.newarray .int, 2) := by decide +kernel
theorem dX0_init_49 : decode cX0_init 49 = .ok (.putfield 27, 3) := by decide +kernel
theorem dX0_init_52 : decode cX0_init 52 = .ok (.aload_n 0, 1) := by decide +kernel
theorem dX0_init_53 : decode cX0_init 53 = .ok (.bipush 24, 2) := by decide +kernel
theorem dX0_init_55 : decode cX0_init 55 = .ok (.newarray .int, 2) := by decide +kernel
theorem dX0_init_57 : decode cX0_init 57 = .ok (.putfield 30, 3) := by decide +kernel
theorem dX0_init_60 : decode cX0_init 60 = .ok (.aload_n 0, 1) := by decide +kernel
theorem dX0_init_61 : decode cX0_init 61 = .ok (.bipush 24, 2) := by decide +kernel
theorem dX0_init_63 : decode cX0_init 63 = .ok (.newarray .int, 2) := by decide +kernel
theorem dX0_init_65 : decode cX0_init 65 = .ok (.putfield 33, 3) := by decide +kernel
theorem dX0_init_68 : decode cX0_init 68 = .ok (.aload_n 0, 1) := by decide +kernel
theorem dX0_init_69 : decode cX0_init 69 = .ok (.bipush 24, 2) := by decide +kernel
theorem dX0_init_71 : decode cX0_init 71 = .ok (.newarray .int, 2) := by decide +kernel
theorem dX0_init_73 : decode cX0_init 73 = .ok (.putfield 36, 3) := by decide +kernel
theorem dX0_init_76 : decode cX0_init 76 = .ok (.return_, 1) := by decide +kernel
set_option maxRecDepth 100000 in
set_option maxHeartbeats 4000000 in
theorem i_X0 (l : Launch) (E : TE) (L : List va_E) (a : Nat) (ha : L.length = a) : MC l E yX0_init cX0_init 1 1 9 216 [rf E a] (PB E (L ++ [.inr (0, [.int 0, .null, .null, .null, .null, .null, .null, .null, .null, .null])])) (PB E (L ++ ([.inr (0, [.int 0, rf E (a + 1), rf E (a + 2), rf E (a + 3), rf E (a + 4), rf E (a + 5), rf E (a + 6), rf E (a + 7), rf E (a + 8), rf E (a + 9)]), ar E 24 (fun _ => 0), ar E 24 (fun _ => 0), ar E 24 (fun _ => 0), ar E 24 (fun _ => 0), ar E 24 (fun _ => 0), ar E 24 (fun _ => 0), ar E 24 (fun _ => 0), ar E 24 (fun _ => 0), ar E 24 (fun _ => 0)]))) := by
  refine mk_in (by decide) (Nat.le_of_ble_eq_true rfl) ?_
  intro p e s mi args below meth c H ls hx hb hr hlk hml hown hin2 hB hK hW hS hl
  have hl : lv_has ls 1 [(0, rf E a)] := hl
  refine lv_aload_n hx hb dX0_init_0 rfl (lv_at hl 0 rfl) ?_
  refine W.objInit hx hb hown (hB _ qm_olX0) (hB _ qm_oiI) (hB _ qm_oiC) rfl (hl.1.trans hml.symm) rfl dX0_init_1 (Nat.le_of_ble_eq_true rfl) (Nat.le_of_ble_eq_true rfl) ?_
  show W p l e _ s mi args below meth c H [] 0 0 _ (F0 mi 4 ls [])
  refine lv_aload_n hx hb dX0_init_4 rfl (lv_at hl 0 rfl) ?_
  refine lv_bipush (v := 24) hx hb dX0_init_5 (by decide) ?_
  refine p_newi hx hb hB hK.1 hW hS (N := 24) (j := 1) (by decide) (by decide) (Nat.le_of_ble_eq_true rfl) (Nat.le_of_ble_eq_true rfl) (Nat.le_of_ble_eq_true rfl) ha rfl dX0_init_7 (fun H hW hS => ?_)
  have hW : PB E (L ++ ([.inr (0, [.int 0, .null, .null, .null, .null, .null, .null, .null, .null, .null]), ar E 24 (fun _ => 0)])) H := hW
  refine p_putF hx hb hB hK.1 (C := RX0) (T := TX0) (N := 10) (ci := 0) inB_X0 tyX0 tyX0_ok nmX0 hown hW hS ha 0 rfl rfl 1 (by decide) rfl rfl hin2 q_121 (ty := (.array .int)) rfl rfl rfl (Nat.le_of_ble_eq_true rfl) dX0_init_9 (fun H locs hW hS => ?_)
  have hW : PB E (L ++ ([.inr (0, [.int 0, rf E (a + 1), .null, .null, .null, .null, .null, .null, .null, .null]), ar E 24 (fun _ => 0)])) H := hW
  refine lv_aload_n hx hb dX0_init_12 rfl (lv_at hl 0 rfl) ?_
  refine lv_bipush (v := 24) hx hb dX0_init_13 (by decide) ?_
  refine p_newi hx hb hB hK.1 hW hS (N := 24) (j := 2) (by decide) (by decide) (Nat.le_of_ble_eq_true rfl) (Nat.le_of_ble_eq_true rfl) (Nat.le_of_ble_eq_true rfl) ha rfl dX0_init_15 (fun H hW hS => ?_)
  have hW : PB E (L ++ ([.inr (0, [.int 0, rf E (a + 1), .null, .null, .null, .null, .null, .null, .null, .null]), ar E 24 (fun _ => 0), ar E 24 (fun _ => 0)])) H := hW
  refine p_putF hx hb hB hK.1 (C := RX0) (T := TX0) (N := 10) (ci := 0) inB_X0 tyX0 tyX0_ok nmX0 hown hW hS ha 0 rfl rfl 2 (by decide) rfl rfl hin2 q_122 (ty := (.array .int)) rfl rfl rfl (Nat.le_of_ble_eq_true rfl) dX0_init_17 (fun H locs hW hS => ?_)
  have hW : PB E (L ++ ([.inr (0, [.int 0, rf E (a + 1), rf E (a + 2), .null, .null, .null, .null, .null, .null, .null]), ar E 24 (fun _ => 0), ar E 24 (fun _ => 0)])) H := hW
  refine lv_aload_n hx hb dX0_init_20 rfl (lv_at hl 0 rfl) ?_
  refine lv_bipush (v := 24) hx hb dX0_init_21 (by decide) ?_
  refine p_newi hx hb hB hK.1 hW hS (N := 24) (j := 3) (by decide) (by decide) (Nat.le_of_ble_eq_true rfl) (Nat.le_of_ble_eq_true rfl) (Nat.le_of_ble_eq_true rfl) ha rfl dX0_init_23 (fun H hW hS => ?_)
  have hW : PB E (L ++ ([.inr (0, [.int 0, rf E (a + 1), rf E (a + 2), .null, .null, .null, .null, .null, .null, .null]), ar E 24 (fun _ => 0), ar E 24 (fun _ => 0), ar E 24 (fun _ => 0)])) H := hW
  refine p_putF hx hb hB hK.1 (C := RX0) (T := TX0) (N := 10) (ci := 0) inB_X0 tyX0 tyX0_ok nmX0 hown hW hS ha 0 rfl rfl 3 (by decide) rfl rfl hin2 q_123 (ty := (.array .int)) rfl rfl rfl (Nat.le_of_ble_eq_true rfl) dX0_init_25 (fun H locs hW hS => ?_)
  have hW : PB E (L ++ ([.inr (0, [.int 0, rf E (a + 1), rf E (a + 2), rf E (a + 3), .null, .null, .null, .null, .null, .null]), ar E 24 (fun _ => 0), ar E 24 (fun _ => 0), ar E 24 (fun _ => 0)])) H := hW
  refine lv_aload_n hx hb dX0_init_28 rfl (lv_at hl 0 rfl) ?_
  refine lv_bipush (v := 24) hx hb dX0_init_29 (by decide) ?_
  refine p_newi hx hb hB hK.1 hW hS (N := 24) (j := 4) (by decide) (by decide) (Nat.le_of_ble_eq_true rfl) (Nat.le_of_ble_eq_true rfl) (Nat.le_of_ble_eq_true rfl) ha rfl dX0_init_31 (fun H hW hS => ?_)
  have hW : PB E (L ++ ([.inr (0, [.int 0, rf E (a + 1), rf E (a + 2), rf E (a + 3), .null, .null, .null, .null, .null, .null]), ar E 24 (fun _ => 0), ar E 24 (fun _ => 0), ar E 24 (fun _ => 0), ar E 24 (fun _ => 0)])) H := hW
  refine p_putF hx hb hB hK.1 (C := RX0) (T := TX0) (N := 10) (ci := 0) inB_X0 tyX0 tyX0_ok nmX0 hown hW hS ha 0 rfl rfl 4 (by decide) rfl rfl hin2 q_124 (ty := (.array .int)) rfl rfl rfl (Nat.le_of_ble_eq_true rfl) dX0_init_33 (fun H locs hW hS => ?_)
  have hW : PB E (L ++ ([.inr (0, [.int 0, rf E (a + 1), rf E (a + 2), rf E (a + 3), rf E (a + 4), .null, .null, .null, .null, .null]), ar E 24 (fun _ => 0), ar E 24 (fun _ => 0), ar E 24 (fun _ => 0), ar E 24 (fun _ => 0)])) H := hW
  refine lv_aload_n hx hb dX0_init_36 rfl (lv_at hl 0 rfl) ?_
  refine lv_bipush (v := 24) hx hb dX0_init_37 (by decide) ?_
  refine p_newi hx hb hB hK.1 hW hS (N := 24) (j := 5) (by decide) (by decide) (Nat.le_of_ble_eq_true rfl) (Nat.le_of_ble_eq_true rfl) (Nat.le_of_ble_eq_true rfl) ha rfl dX0_init_39 (fun H hW hS => ?_)
  have hW : PB E (L ++ ([.inr (0, [.int 0, rf E (a + 1), rf E (a + 2), rf E (a + 3), rf E (a + 4), .null, .null, .null, .null, .null]), ar E 24 (fun _ => 0), ar E 24 (fun _ => 0), ar E 24 (fun _ => 0), ar E 24 (fun _ => 0), ar E 24 (fun _ => 0)])) H := hW
  refine p_putF hx hb hB hK.1 (C := RX0) (T := TX0) (N := 10) (ci := 0) inB_X0 tyX0 tyX0_ok nmX0 hown hW hS ha 0 rfl rfl 5 (by decide) rfl rfl hin2 q_125 (ty := (.array .int)) rfl rfl rfl (Nat.le_of_ble_eq_true rfl) dX0_init_41 (fun H locs hW hS => ?_)
  have hW : PB E (L ++ ([.inr (0, [.int 0, rf E (a + 1), rf E (a + 2), rf E (a + 3), rf E (a + 4), rf E (a + 5), .null, .null, .null, .null]), ar E 24 (fun _ => 0), ar E 24 (fun _ => 0), ar E 24 (fun _ => 0), ar E 24 (fun _ => 0), ar E 24 (fun _ => 0)])) H := hW
  refine lv_aload_n hx hb dX0_init_44 rfl (lv_at hl 0 rfl) ?_
  refine lv_bipush (v := 24) hx hb dX0_init_45 (by decide) ?_
  refine p_newi hx hb hB hK.1 hW hS (N := 24) (j := 6) (by decide) (by decide) (Nat.le_of_ble_eq_true rfl) (Nat.le_of_ble_eq_true rfl) (Nat.le_of_ble_eq_true rfl) ha rfl dX0_init_47 (fun H hW hS => ?_)
  have hW : PB E (L ++ ([.inr (0, [.int 0, rf E (a + 1), rf E (a + 2), rf E (a + 3), rf E (a + 4), rf E (a + 5), .null, .null, .null, .null]), ar E 24 (fun _ => 0), ar E 24 (fun _ => 0), ar E 24 (fun _ => 0), ar E 24 (fun _ => 0), ar E 24 (fun _ => 0), ar E 24 (fun _ => 0)])) H := hW
  refine p_putF hx hb hB hK.1 (C := RX0) (T := TX0) (N := 10) (ci := 0) inB_X0 tyX0 tyX0_ok nmX0 hown hW hS ha 0 rfl rfl 6 (by decide) rfl rfl hin2 q_126 (ty := (.array .int)) rfl rfl rfl (Nat.le_of_ble_eq_true rfl) dX0_init_49 (fun H locs hW hS => ?_)
  have hW : PB E (L ++ ([.inr (0, [.int 0, rf E (a + 1), rf E (a + 2), rf E (a + 3), rf E (a + 4), rf E (a + 5), rf E (a + 6), .null, .null, .null]), ar E 24 (fun _ => 0), ar E 24 (fun _ => 0), ar E 24 (fun _ => 0), ar E 24 (fun _ => 0), ar E 24 (fun _ => 0), ar E 24 (fun _ => 0)])) H := hW
  refine lv_aload_n hx hb dX0_init_52 rfl (lv_at hl 0 rfl) ?_
  refine lv_bipush (v := 24) hx hb dX0_init_53 (by decide) ?_
  refine p_newi hx hb hB hK.1 hW hS (N := 24) (j := 7) (by decide) (by decide) (Nat.le_of_ble_eq_true rfl) (Nat.le_of_ble_eq_true rfl) (Nat.le_of_ble_eq_true rfl) ha rfl dX0_init_55 (fun H hW hS => ?_)
  have hW : PB E (L ++ ([.inr (0, [.int 0, rf E (a + 1), rf E (a + 2), rf E (a + 3), rf E (a + 4), rf E (a + 5), rf E (a + 6), .null, .null, .null]), ar E 24 (fun _ => 0), ar E 24 (fun _ => 0), ar E 24 (fun _ => 0), ar E 24 (fun _ => 0), ar E 24 (fun _ => 0), ar E 24 (fun _ => 0), ar E 24 (fun _ => 0)])) H := hW
  refine p_putF hx hb hB hK.1 (C := RX0) (T := TX0) (N := 10) (ci := 0) inB_X0 tyX0 tyX0_ok nmX0 hown hW hS ha 0 rfl rfl 7 (by decide) rfl rfl hin2 q_127 (ty := (.array .int)) rfl rfl rfl (Nat.le_of_ble_eq_true rfl) dX0_init_57 (fun H locs hW hS => ?_)
  have hW : PB E (L ++ ([.inr (0, [.int 0, rf E (a + 1), rf E (a + 2), rf E (a + 3), rf E (a + 4), rf E (a + 5), rf E (a + 6), rf E (a + 7), .null, .null]), ar E 24 (fun _ => 0), ar E 24 (fun _ => 0), ar E 24 (fun _ => 0), ar E 24 (fun _ => 0), ar E 24 (fun _ => 0), ar E 24 (fun _ => 0), ar E 24 (fun _ => 0)])) H := hW
  refine lv_aload_n hx hb dX0_init_60 rfl (lv_at hl 0 rfl) ?_
  refine lv_bipush (v := 24) hx hb dX0_init_61 (by decide) ?_
  refine p_newi hx hb hB hK.1 hW hS (N := 24) (j := 8) (by decide) (by decide) (Nat.le_of_ble_eq_true rfl) (Nat.le_of_ble_eq_true rfl) (Nat.le_of_ble_eq_true rfl) ha rfl dX0_init_63 (fun H hW hS => ?_)
  have hW : PB E (L ++ ([.inr (0, [.int 0, rf E (a + 1), rf E (a + 2), rf E (a + 3), rf E (a + 4), rf E (a + 5), rf E (a + 6), rf E (a + 7), .null, .null]), ar E 24 (fun _ => 0), ar E 24 (fun _ => 0), ar E 24 (fun _ => 0), ar E 24 (fun _ => 0), ar E 24 (fun _ => 0), ar E 24 (fun _ => 0), ar E 24 (fun _ => 0), ar E 24 (fun _ => 0)])) H := hW
  refine p_putF hx hb hB hK.1 (C := RX0) (T := TX0) (N := 10) (ci := 0) inB_X0 tyX0 tyX0_ok nmX0 hown hW hS ha 0 rfl rfl 8 (by decide) rfl rfl hin2 q_128 (ty := (.array .int)) rfl rfl rfl (Nat.le_of_ble_eq_true rfl) dX0_init_65 (fun H locs hW hS => ?_)
  have hW : PB E (L ++ ([.inr (0, [.int 0, rf E (a + 1), rf E (a + 2), rf E (a + 3), rf E (a + 4), rf E (a + 5), rf E (a + 6), rf E (a + 7), rf E (a + 8), .null]), ar E 24 (fun _ => 0), ar E 24 (fun _ => 0), ar E 24 (fun _ => 0), ar E 24 (fun _ => 0), ar E 24 (fun _ => 0), ar E 24 (fun _ => 0), ar E 24 (fun _ => 0), ar E 24 (fun _ => 0)])) H := hW
  refine lv_aload_n hx hb dX0_init_68 rfl (lv_at hl 0 rfl) ?_
  refine lv_bipush (v := 24) hx hb dX0_init_69 (by decide) ?_
  refine p_newi hx hb hB hK.1 hW hS (N := 24) (j := 9) (by decide) (by decide) (Nat.le_of_ble_eq_true rfl) (Nat.le_of_ble_eq_true rfl) (Nat.le_of_ble_eq_true rfl) ha rfl dX0_init_71 (fun H hW hS => ?_)
  have hW : PB E (L ++ ([.inr (0, [.int 0, rf E (a + 1), rf E (a + 2), rf E (a + 3), rf E (a + 4), rf E (a + 5), rf E (a + 6), rf E (a + 7), rf E (a + 8), .null]), ar E 24 (fun _ => 0), ar E 24 (fun _ => 0), ar E 24 (fun _ => 0), ar E 24 (fun _ => 0), ar E 24 (fun _ => 0), ar E 24 (fun _ => 0), ar E 24 (fun _ => 0), ar E 24 (fun _ => 0), ar E 24 (fun _ => 0)])) H := hW
  refine p_putF hx hb hB hK.1 (C := RX0) (T := TX0) (N := 10) (ci := 0) inB_X0 tyX0 tyX0_ok nmX0 hown hW hS ha 0 rfl rfl 9 (by decide) rfl rfl hin2 q_129 (ty := (.array .int)) rfl rfl rfl (Nat.le_of_ble_eq_true rfl) dX0_init_73 (fun H locs hW hS => ?_)
  have hW : PB E (L ++ ([.inr (0, [.int 0, rf E (a + 1), rf E (a + 2), rf E (a + 3), rf E (a + 4), rf E (a + 5), rf E (a + 6), rf E (a + 7), rf E (a + 8), rf E (a + 9)]), ar E 24 (fun _ => 0), ar E 24 (fun _ => 0), ar E 24 (fun _ => 0), ar E 24 (fun _ => 0), ar E 24 (fun _ => 0), ar E 24 (fun _ => 0), ar E 24 (fun _ => 0), ar E 24 (fun _ => 0), ar E 24 (fun _ => 0)])) H := hW
  exact e_c hx hb hr hlk hW hS dX0_init_76
theorem dX2_init_0 : decode cX2_init 0 = .ok (.aload_n 0, 1) := by decide +kernel
theorem dX2_init_1 : decode cX2_init 1 = .ok (.invokespecial 3, 3) := by decide +kernel
theorem dX2_init_4 : decode cX2_init 4 = .ok (.aload_n 0, 1) := by decide +kernel
theorem dX2_init_5 : decode cX2_init 5 = .ok (.bipush 24, 2) := by decide +kernel
theorem dX2_init_7 : decode cX2_init 7 = .ok (.newarray .int, 2) := by decide +kernel
theorem dX2_init_9 : decode cX2_init 9 = .ok (.putfield 9, 3) := by decide +kernel
theorem dX2_init_12 : decode cX2_init 12 = .ok (.aload_n 0, 1) := by decide +kernel
theorem dX2_init_13 : decode cX2_init 13 = .ok (.bipush 24, 2) := by decide +kernel
theorem dX2_init_15 : decode cX2_init 15 = .ok (.newarray .int, 2) := by decide +kernel
theorem dX2_init_17 : decode cX2_init 17 = .ok (.putfield 15, 3) := by decide +kernel
theorem dX2_init_20 : decode cX2_init 20 = .ok (.aload_n 0, 1) := by decide +kernel
theorem dX2_init_21 : decode cX2_init 21 = .ok (.bipush 24, 2) := by decide +kernel
theorem dX2_init_23 : decode cX2_init 23 = .ok (.newarray .int, 2) := by decide +kernel
theorem dX2_init_25 : decode cX2_init 25 = .ok (.putfield 18, 3) := by decide +kernel
theorem dX2_init_28 : decode cX2_init 28 = .ok (.aload_n 0, 1) := by decide +kernel
theorem dX2_init_29 : decode cX2_init 29 = .ok (.bipush 12, 2) := by decide +kernel
theorem dX2_init_31 : decode cX2_init 31 = .ok (.newarray .int, 2) := by decide +kernel
theorem dX2_init_33 : decode cX2_init 33 = .ok (.putfield 21, 3) := by decide +kernel
theorem dX2_init_36 : decode cX2_init 36 = .ok (.aload_n 0, 1) := by decide +kernel
theorem dX2_init_37 : decode cX2_init 37 = .ok (.getfield 21, 3) := by decide +kernel
theorem dX2_init_40 : decode cX2_init 40 = .ok (.iconst (-1), 1) := by decide +kernel
theorem dX2_init_41 : decode cX2_init 41 = .ok (.invokestatic 24, 3) := by decide +kernel
theorem dX2_init_44 : decode cX2_init 44 = .ok (.return_, 1) := by decide +kernel
set_option maxRecDepth 100000 in
set_option maxHeartbeats 4000000 in
theorem i_X2 (l : Launch) (E : TE) (L : List va_E) (a : Nat) (ha : L.length = a) : MC l E yX2_init cX2_init 1 1 4 84 [rf E a] (PB E (L ++ [.inr (2, [.int 0, .null, .null, .null, .null])])) (PB E (L ++ ([.inr (2, [.int 0, rf E (a + 1), rf E (a + 2), rf E (a + 3), rf E (a + 4)]), ar E 24 (fun _ => 0), ar E 24 (fun _ => 0), ar E 24 (fun _ => 0), ar E 12 (fun _ => (-1))]))) := by
  refine mk_in (by decide) (Nat.le_of_ble_eq_true rfl) ?_
  intro p e s mi args below meth c H ls hx hb hr hlk hml hown hin2 hB hK hW hS hl
  have hl : lv_has ls 1 [(0, rf E a)] := hl
  refine lv_aload_n hx hb dX2_init_0 rfl (lv_at hl 0 rfl) ?_
  refine W.objInit hx hb hown (hB _ qm_olX2) (hB _ qm_oiI) (hB _ qm_oiC) rfl (hl.1.trans hml.symm) rfl dX2_init_1 (Nat.le_of_ble_eq_true rfl) (Nat.le_of_ble_eq_true rfl) ?_
  show W p l e _ s mi args below meth c H [] 0 0 _ (F0 mi 4 ls [])
  refine lv_aload_n hx hb dX2_init_4 rfl (lv_at hl 0 rfl) ?_
  refine lv_bipush (v := 24) hx hb dX2_init_5 (by decide) ?_
  refine p_newi hx hb hB hK.1 hW hS (N := 24) (j := 1) (by decide) (by decide) (Nat.le_of_ble_eq_true rfl) (Nat.le_of_ble_eq_true rfl) (Nat.le_of_ble_eq_true rfl) ha rfl dX2_init_7 (fun H hW hS => ?_)
  have hW : PB E (L ++ ([.inr (2, [.int 0, .null, .null, .null, .null]), ar E 24 (fun _ => 0)])) H := hW
  refine p_putF hx hb hB hK.1 (C := RX2) (T := TX2) (N := 5) (ci := 2) inB_X2 tyX2 tyX2_ok nmX2 hown hW hS ha 0 rfl rfl 1 (by decide) rfl rfl hin2 q_162 (ty := (.array .int)) rfl rfl rfl (Nat.le_of_ble_eq_true rfl) dX2_init_9 (fun H locs hW hS => ?_)
  have hW : PB E (L ++ ([.inr (2, [.int 0, rf E (a + 1), .null, .null, .null]), ar E 24 (fun _ => 0)])) H := hW
  refine lv_aload_n hx hb dX2_init_12 rfl (lv_at hl 0 rfl) ?_
  refine lv_bipush (v := 24) hx hb dX2_init_13 (by decide) ?_
  refine p_newi hx hb hB hK.1 hW hS (N := 24) (j := 2) (by decide) (by decide) (Nat.le_of_ble_eq_true rfl) (Nat.le_of_ble_eq_true rfl) (Nat.le_of_ble_eq_true rfl) ha rfl dX2_init_15 (fun H hW hS => ?_)
  have hW : PB E (L ++ ([.inr (2, [.int 0, rf E (a + 1), .null, .null, .null]), ar E 24 (fun _ => 0), ar E 24 (fun _ => 0)])) H := hW
  refine p_putF hx hb hB hK.1 (C := RX2) (T := TX2) (N := 5) (ci := 2) inB_X2 tyX2 tyX2_ok nmX2 hown hW hS ha 0 rfl rfl 2 (by decide) rfl rfl hin2 q_163 (ty := (.array .int)) rfl rfl rfl (Nat.le_of_ble_eq_true rfl) dX2_init_17 (fun H locs hW hS => ?_)
  have hW : PB E (L ++ ([.inr (2, [.int 0, rf E (a + 1), rf E (a + 2), .null, .null]), ar E 24 (fun _ => 0), ar E 24 (fun _ => 0)])) H := hW
  refine lv_aload_n hx hb dX2_init_20 rfl (lv_at hl 0 rfl) ?_
  refine lv_bipush (v := 24) hx hb dX2_init_21 (by decide) ?_
  refine p_newi hx hb hB hK.1 hW hS (N := 24) (j := 3) (by decide) (by decide) (Nat.le_of_ble_eq_true rfl) (Nat.le_of_ble_eq_true rfl) (Nat.le_of_ble_eq_true rfl) ha rfl dX2_init_23 (fun H hW hS => ?_)
  have hW : PB E (L ++ ([.inr (2, [.int 0, rf E (a + 1), rf E (a + 2), .null, .null]), ar E 24 (fun _ => 0), ar E 24 (fun _ => 0), ar E 24 (fun _ => 0)])) H := hW
  refine p_putF hx hb hB hK.1 (C := RX2) (T := TX2) (N := 5) (ci := 2) inB_X2 tyX2 tyX2_ok nmX2 hown hW hS ha 0 rfl rfl 3 (by decide) rfl rfl hin2 q_164 (ty := (.array .int)) rfl rfl rfl (Nat.le_of_ble_eq_true rfl) dX2_init_25 (fun H locs hW hS => ?_)
  have hW : PB E (L ++ ([.inr (2, [.int 0, rf E (a + 1), rf E (a + 2), rf E (a + 3), .null]), ar E 24 (fun _ => 0), ar E 24 (fun _ => 0), ar E 24 (fun _ => 0)])) H := hW
  refine lv_aload_n hx hb dX2_init_28 rfl (lv_at hl 0 rfl) ?_
  refine lv_bipush (v := 12) hx hb dX2_init_29 (by decide) ?_
  refine p_newi hx hb hB hK.1 hW hS (N := 12) (j := 4) (by decide) (by decide) (Nat.le_of_ble_eq_true rfl) (Nat.le_of_ble_eq_true rfl) (Nat.le_of_ble_eq_true rfl) ha rfl dX2_init_31 (fun H hW hS => ?_)
  have hW : PB E (L ++ ([.inr (2, [.int 0, rf E (a + 1), rf E (a + 2), rf E (a + 3), .null]), ar E 24 (fun _ => 0), ar E 24 (fun _ => 0), ar E 24 (fun _ => 0), ar E 12 (fun _ => 0)])) H := hW
  refine p_putF hx hb hB hK.1 (C := RX2) (T := TX2) (N := 5) (ci := 2) inB_X2 tyX2 tyX2_ok nmX2 hown hW hS ha 0 rfl rfl 4 (by decide) rfl rfl hin2 q_165 (ty := (.array .int)) rfl rfl rfl (Nat.le_of_ble_eq_true rfl) dX2_init_33 (fun H locs hW hS => ?_)
  have hW : PB E (L ++ ([.inr (2, [.int 0, rf E (a + 1), rf E (a + 2), rf E (a + 3), rf E (a + 4)]), ar E 24 (fun _ => 0), ar E 24 (fun _ => 0), ar E 24 (fun _ => 0), ar E 12 (fun _ => 0)])) H := hW
  refine lv_aload_n hx hb dX2_init_36 rfl (lv_at hl 0 rfl) ?_
  refine p_get hx hb hB hK.1 (C := RX2) (T := TX2) (N := 5) (ci := 2) inB_X2 hown hW ha 0 rfl rfl 4 (by decide) rfl q_165 (v := rf E (a + 4)) rfl dX2_init_37 ?_
  refine lv_iconst (v := -1) hx hb dX2_init_40 (by decide) ?_
  refine c_S (As := [rf E (a + 4), .int (-1)]) (st1 := []) (rest := []) (m_fill l E (-1) (n := 12) (by decide) (pb_get ha rfl)) (k_S (k := 2) hB qm_fco qm_fin q_157 qm_fst (by decide +kernel) ⟨Nat.le_of_ble_eq_true rfl, Nat.le_of_ble_eq_true rfl⟩) hx hb hml hown hB hK.1 hW hS ⟨Nat.le_of_ble_eq_true rfl, Nat.le_of_ble_eq_true rfl⟩ rfl hl.1 rfl (Nat.le_of_ble_eq_true rfl) rfl dX2_init_41 (fun H locs hW hS => ?_)
  have hW := PB.nm (pb_set ha) hW
  have hW : PB E (L ++ ([.inr (2, [.int 0, rf E (a + 1), rf E (a + 2), rf E (a + 3), rf E (a + 4)]), ar E 24 (fun _ => 0), ar E 24 (fun _ => 0), ar E 24 (fun _ => 0), ar E 12 (fun _ => (-1))])) H := hW
  exact e_c hx hb hr hlk hW hS dX2_init_44
def stC (E : TE) (a : Nat) : List va_E := [.inr (3, [rf E (a + 1), rf E (a + 7), rf E (a + 17), rf E (a + 22), rf E (a + 23), rf E (a + 24), rf E (a + 25), .int 0]), .inr (1, [rf E (a + 2), rf E (a + 3), rf E (a + 4), rf E (a + 5), rf E (a + 6)]), ar E 4 (fun _ => 0), ar E 24 (fun _ => 0), ar E 24 (fun _ => 0), ar E 24 (fun _ => 0), ar E 24 (fun _ => 0), .inr (0, [.int 0, rf E (a + 8), rf E (a + 9), rf E (a + 10), rf E (a + 11), rf E (a + 12), rf E (a + 13), rf E (a + 14), rf E (a + 15), rf E (a + 16)]), ar E 24 (fun _ => 0), ar E 24 (fun _ => 0), ar E 24 (fun _ => 0), ar E 24 (fun _ => 0), ar E 24 (fun _ => 0), ar E 24 (fun _ => 0), ar E 24 (fun _ => 0), ar E 24 (fun _ => 0), ar E 24 (fun _ => 0), .inr (2, [.int 0, rf E (a + 18), rf E (a + 19), rf E (a + 20), rf E (a + 21)]), ar E 24 (fun _ => 0), ar E 24 (fun _ => 0), ar E 24 (fun _ => 0), ar E 12 (fun _ => (-1)), ar E 3 fF, ar E 4 (fun _ => 500), ar E 4 (fun _ => 500), ar E 4 (fun _ => 0)]
theorem dX3_init_0 : decode cX3_init 0 = .ok (.aload_n 0, 1) := by decide +kernel
theorem dX3_init_1 : decode cX3_init 1 = .ok (.invokespecial 3, 3) := by decide +kernel
theorem dX3_init_4 : decode cX3_init 4 = .ok (.aload_n 0, 1) := by decide +kernel
theorem dX3_init_5 : decode cX3_init 5 = .ok (.new 9, 3) := by decide +kernel
theorem dX3_init_8 : decode cX3_init 8 = .ok (.dup, 1) := by decide +kernel
theorem dX3_init_9 : decode cX3_init 9 = .ok (.invokespecial 11, 3) := by decide +kernel
theorem dX3_init_12 : decode cX3_init 12 = .ok (.putfield 12, 3) := by decide +kernel
theorem dX3_init_15 : decode cX3_init 15 = .ok (.aload_n 0, 1) := by decide +kernel
theorem dX3_init_16 : decode cX3_init 16 = .ok (.new 18, 3) := by decide +kernel
theorem dX3_init_19 : decode cX3_init 19 = .ok (.dup, 1) := by decide +kernel
theorem dX3_init_20 : decode cX3_init 20 = .ok (.invokespecial 20, 3) := by decide +kernel
theorem dX3_init_23 : decode cX3_init 23 = .ok (.putfield 21, 3) := by decide +kernel
theorem dX3_init_26 : decode cX3_init 26 = .ok (.aload_n 0, 1) := by decide +kernel
theorem dX3_init_27 : decode cX3_init 27 = .ok (.new 25, 3) := by decide +kernel
theorem dX3_init_30 : decode cX3_init 30 = .ok (.dup, 1) := by decide +kernel
theorem dX3_init_31 : decode cX3_init 31 = .ok (.invokespecial 27, 3) := by decide +kernel
theorem dX3_init_34 : decode cX3_init 34 = .ok (.putfield 28, 3) := by decide +kernel
theorem dX3_init_37 : decode cX3_init 37 = .ok (.aload_n 0, 1) := by decide +kernel
theorem dX3_init_38 : decode cX3_init 38 = .ok (.iconst 3, 1) := by decide +kernel
theorem dX3_init_39 : decode cX3_init 39 = .ok (.newarray .int, 2) := by decide +kernel
theorem dX3_init_41 : decode cX3_init 41 = .ok (.putfield 32, 3) := by decide +kernel
theorem dX3_init_44 : decode cX3_init 44 = .ok (.aload_n 0, 1) := by decide +kernel
theorem dX3_init_45 : decode cX3_init 45 = .ok (.iconst 4, 1) := by decide +kernel
theorem dX3_init_46 : decode cX3_init 46 = .ok (.newarray .int, 2) := by decide +kernel
theorem dX3_init_48 : decode cX3_init 48 = .ok (.putfield 36, 3) := by decide +kernel
theorem dX3_init_51 : decode cX3_init 51 = .ok (.aload_n 0, 1) := by decide +kernel
theorem dX3_init_52 : decode cX3_init 52 = .ok (.iconst 4, 1) := by decide +kernel
theorem dX3_init_53 : decode cX3_init 53 = .ok (.newarray .int, 2) := by decide +kernel
theorem dX3_init_55 : decode cX3_init 55 = .ok (.putfield 39, 3) := by decide +kernel
theorem dX3_init_58 : decode cX3_init 58 = .ok (.aload_n 0, 1) := by decide +kernel
theorem dX3_init_59 : decode cX3_init 59 = .ok (.iconst 4, 1) := by decide +kernel
theorem dX3_init_60 : decode cX3_init 60 = .ok (.newarray .int, 2) := by decide +kernel
theorem dX3_init_62 : decode cX3_init 62 = .ok (.putfield 42, 3) := by decide +kernel
theorem dX3_init_65 : decode cX3_init 65 = .ok (.getstatic 45, 3) := by decide +kernel
theorem dX3_init_68 : decode cX3_init 68 = .ok (.aload_n 0, 1) := by decide +kernel
theorem dX3_init_69 : decode cX3_init 69 = .ok (.getfield 32, 3) := by decide +kernel
theorem dX3_init_72 : decode cX3_init 72 = .ok (.invokestatic 48, 3) := by decide +kernel
theorem dX3_init_75 : decode cX3_init 75 = .ok (.aload_n 0, 1) := by decide +kernel
theorem dX3_init_76 : decode cX3_init 76 = .ok (.getfield 36, 3) := by decide +kernel
theorem dX3_init_79 : decode cX3_init 79 = .ok (.sipush 500, 3) := by decide +kernel
theorem dX3_init_82 : decode cX3_init 82 = .ok (.invokestatic 52, 3) := by decide +kernel
theorem dX3_init_85 : decode cX3_init 85 = .ok (.aload_n 0, 1) := by decide +kernel
theorem dX3_init_86 : decode cX3_init 86 = .ok (.getfield 39, 3) := by decide +kernel
theorem dX3_init_89 : decode cX3_init 89 = .ok (.sipush 500, 3) := by decide +kernel
theorem dX3_init_92 : decode cX3_init 92 = .ok (.invokestatic 52, 3) := by decide +kernel
theorem dX3_init_95 : decode cX3_init 95 = .ok (.return_, 1) := by decide +kernel
set_option maxRecDepth 100000 in
set_option maxHeartbeats 4000000 in
theorem i_X3 (l : Launch) (E : TE) (L : List va_E) (a : Nat) (ha : L.length = a) : MC l E yX3_init cX3_init 1 3 25 435 [rf E a] (PB E (L ++ [.inr (3, [.null, .null, .null, .null, .null, .null, .null, .int 0])])) (PB E (L ++ (stC E a))) := by
  refine mk_in (by decide) (Nat.le_of_ble_eq_true rfl) ?_
  intro p e s mi args below meth c H ls hx hb hr hlk hml hown hin2 hB hK hW hS hl
  have hl : lv_has ls 1 [(0, rf E a)] := hl
  refine lv_aload_n hx hb dX3_init_0 rfl (lv_at hl 0 rfl) ?_
  refine W.objInit hx hb hown (hB _ qm_olX3) (hB _ qm_oiI) (hB _ qm_oiC) rfl (hl.1.trans hml.symm) rfl dX3_init_1 (Nat.le_of_ble_eq_true rfl) (Nat.le_of_ble_eq_true rfl) ?_
  show W p l e _ s mi args below meth c H [] 0 0 _ (F0 mi 4 ls [])
  refine lv_aload_n hx hb dX3_init_4 rfl (lv_at hl 0 rfl) ?_
  refine p_new hx hb hB hK.1 (C := RX1) (T := TX1) (N := 5) (ci := 1) inB_X1 tyX1 tyX1_ok hown q_89 qm_inX1 qm_irX1 hW hS rfl (fs := [.null, .null, .null, .null, .null]) (fun j hj => by rcases (show j = 0 ∨ j = 1 ∨ j = 2 ∨ j = 3 ∨ j = 4 by omega) with rfl | rfl | rfl | rfl | rfl <;> rfl) (Nat.le_of_ble_eq_true rfl) (Nat.le_of_ble_eq_true rfl) (pb_len (j := 1) ha rfl) dX3_init_5 (fun H hW hS => ?_)
  refine lv_dup hx hb dX3_init_8 rfl ?_
  refine c_IN (rest := [rf E (a + 1), rf E (a + 0)]) (i_X1 l E (L ++ ([.inr (3, [.null, .null, .null, .null, .null, .null, .null, .int 0])])) (a + 1) (pb_len ha rfl)) (kw_IN hB hK qm_icX1 qm_irX1 nw_91 qm_iiX1 rfl (by decide +kernel) ⟨Nat.le_of_ble_eq_true rfl, Nat.le_of_ble_eq_true rfl⟩) hx hb hml hown hB hK hW hS ⟨Nat.le_of_ble_eq_true rfl, Nat.le_of_ble_eq_true rfl⟩ hl.1 (Nat.le_of_ble_eq_true rfl) dX3_init_9 (fun H locs hW hS => ?_)
  have hW := PB.nm (List.append_assoc L _ _) hW
  have hW : PB E (L ++ ([.inr (3, [.null, .null, .null, .null, .null, .null, .null, .int 0]), .inr (1, [rf E (a + 2), rf E (a + 3), rf E (a + 4), rf E (a + 5), rf E (a + 6)]), ar E 4 (fun _ => 0), ar E 24 (fun _ => 0), ar E 24 (fun _ => 0), ar E 24 (fun _ => 0), ar E 24 (fun _ => 0)])) H := hW
  refine p_putF hx hb hB hK.1 (C := RX3) (T := TX3) (N := 8) (ci := 3) inB_X3 tyX3 tyX3_ok nmX3 hown hW hS ha 0 rfl rfl 0 (by decide) rfl rfl hin2 q_189 (ty := (.object "AmendsLedger$Menus")) rfl rfl rfl (Nat.le_of_ble_eq_true rfl) dX3_init_12 (fun H locs hW hS => ?_)
  have hW : PB E (L ++ ([.inr (3, [rf E (a + 1), .null, .null, .null, .null, .null, .null, .int 0]), .inr (1, [rf E (a + 2), rf E (a + 3), rf E (a + 4), rf E (a + 5), rf E (a + 6)]), ar E 4 (fun _ => 0), ar E 24 (fun _ => 0), ar E 24 (fun _ => 0), ar E 24 (fun _ => 0), ar E 24 (fun _ => 0)])) H := hW
  refine lv_aload_n hx hb dX3_init_15 rfl (lv_at hl 0 rfl) ?_
  refine p_new hx hb hB hK.1 (C := RX0) (T := TX0) (N := 10) (ci := 0) inB_X0 tyX0 tyX0_ok hown q_112 qm_inX0 qm_irX0 hW hS rfl (fs := [.int 0, .null, .null, .null, .null, .null, .null, .null, .null, .null]) (fun j hj => by rcases (show j = 0 ∨ j = 1 ∨ j = 2 ∨ j = 3 ∨ j = 4 ∨ j = 5 ∨ j = 6 ∨ j = 7 ∨ j = 8 ∨ j = 9 by omega) with rfl | rfl | rfl | rfl | rfl | rfl | rfl | rfl | rfl | rfl <;> rfl) (Nat.le_of_ble_eq_true rfl) (Nat.le_of_ble_eq_true rfl) (pb_len (j := 7) ha rfl) dX3_init_16 (fun H hW hS => ?_)
  refine lv_dup hx hb dX3_init_19 rfl ?_
  refine c_IN (rest := [rf E (a + 7), rf E (a + 0)]) (i_X0 l E (L ++ ([.inr (3, [rf E (a + 1), .null, .null, .null, .null, .null, .null, .int 0]), .inr (1, [rf E (a + 2), rf E (a + 3), rf E (a + 4), rf E (a + 5), rf E (a + 6)]), ar E 4 (fun _ => 0), ar E 24 (fun _ => 0), ar E 24 (fun _ => 0), ar E 24 (fun _ => 0), ar E 24 (fun _ => 0)])) (a + 7) (pb_len ha rfl)) (kw_IN hB hK qm_icX0 qm_irX0 nw_114 qm_iiX0 rfl (by decide +kernel) ⟨Nat.le_of_ble_eq_true rfl, Nat.le_of_ble_eq_true rfl⟩) hx hb hml hown hB hK hW hS ⟨Nat.le_of_ble_eq_true rfl, Nat.le_of_ble_eq_true rfl⟩ hl.1 (Nat.le_of_ble_eq_true rfl) dX3_init_20 (fun H locs hW hS => ?_)
  have hW := PB.nm (List.append_assoc L _ _) hW
  have hW : PB E (L ++ ([.inr (3, [rf E (a + 1), .null, .null, .null, .null, .null, .null, .int 0]), .inr (1, [rf E (a + 2), rf E (a + 3), rf E (a + 4), rf E (a + 5), rf E (a + 6)]), ar E 4 (fun _ => 0), ar E 24 (fun _ => 0), ar E 24 (fun _ => 0), ar E 24 (fun _ => 0), ar E 24 (fun _ => 0), .inr (0, [.int 0, rf E (a + 8), rf E (a + 9), rf E (a + 10), rf E (a + 11), rf E (a + 12), rf E (a + 13), rf E (a + 14), rf E (a + 15), rf E (a + 16)]), ar E 24 (fun _ => 0), ar E 24 (fun _ => 0), ar E 24 (fun _ => 0), ar E 24 (fun _ => 0), ar E 24 (fun _ => 0), ar E 24 (fun _ => 0), ar E 24 (fun _ => 0), ar E 24 (fun _ => 0), ar E 24 (fun _ => 0)])) H := hW
  refine p_putF hx hb hB hK.1 (C := RX3) (T := TX3) (N := 8) (ci := 3) inB_X3 tyX3 tyX3_ok nmX3 hown hW hS ha 0 rfl rfl 1 (by decide) rfl rfl hin2 q_191 (ty := (.object "AmendsLedger$Complaints")) rfl rfl rfl (Nat.le_of_ble_eq_true rfl) dX3_init_23 (fun H locs hW hS => ?_)
  have hW : PB E (L ++ ([.inr (3, [rf E (a + 1), rf E (a + 7), .null, .null, .null, .null, .null, .int 0]), .inr (1, [rf E (a + 2), rf E (a + 3), rf E (a + 4), rf E (a + 5), rf E (a + 6)]), ar E 4 (fun _ => 0), ar E 24 (fun _ => 0), ar E 24 (fun _ => 0), ar E 24 (fun _ => 0), ar E 24 (fun _ => 0), .inr (0, [.int 0, rf E (a + 8), rf E (a + 9), rf E (a + 10), rf E (a + 11), rf E (a + 12), rf E (a + 13), rf E (a + 14), rf E (a + 15), rf E (a + 16)]), ar E 24 (fun _ => 0), ar E 24 (fun _ => 0), ar E 24 (fun _ => 0), ar E 24 (fun _ => 0), ar E 24 (fun _ => 0), ar E 24 (fun _ => 0), ar E 24 (fun _ => 0), ar E 24 (fun _ => 0), ar E 24 (fun _ => 0)])) H := hW
  refine lv_aload_n hx hb dX3_init_26 rfl (lv_at hl 0 rfl) ?_
  refine p_new hx hb hB hK.1 (C := RX2) (T := TX2) (N := 5) (ci := 2) inB_X2 tyX2 tyX2_ok hown q_151 qm_inX2 qm_irX2 hW hS rfl (fs := [.int 0, .null, .null, .null, .null]) (fun j hj => by rcases (show j = 0 ∨ j = 1 ∨ j = 2 ∨ j = 3 ∨ j = 4 by omega) with rfl | rfl | rfl | rfl | rfl <;> rfl) (Nat.le_of_ble_eq_true rfl) (Nat.le_of_ble_eq_true rfl) (pb_len (j := 17) ha rfl) dX3_init_27 (fun H hW hS => ?_)
  refine lv_dup hx hb dX3_init_30 rfl ?_
  refine c_I (rest := [rf E (a + 17), rf E (a + 0)]) (i_X2 l E (L ++ ([.inr (3, [rf E (a + 1), rf E (a + 7), .null, .null, .null, .null, .null, .int 0]), .inr (1, [rf E (a + 2), rf E (a + 3), rf E (a + 4), rf E (a + 5), rf E (a + 6)]), ar E 4 (fun _ => 0), ar E 24 (fun _ => 0), ar E 24 (fun _ => 0), ar E 24 (fun _ => 0), ar E 24 (fun _ => 0), .inr (0, [.int 0, rf E (a + 8), rf E (a + 9), rf E (a + 10), rf E (a + 11), rf E (a + 12), rf E (a + 13), rf E (a + 14), rf E (a + 15), rf E (a + 16)]), ar E 24 (fun _ => 0), ar E 24 (fun _ => 0), ar E 24 (fun _ => 0), ar E 24 (fun _ => 0), ar E 24 (fun _ => 0), ar E 24 (fun _ => 0), ar E 24 (fun _ => 0), ar E 24 (fun _ => 0), ar E 24 (fun _ => 0)])) (a + 17) (pb_len ha rfl)) (kw_I hB qm_icX2 qm_irX2 q_153 qm_iiX2 rfl (by decide +kernel) ⟨Nat.le_of_ble_eq_true rfl, Nat.le_of_ble_eq_true rfl⟩) hx hb hml hown hB hK hW hS ⟨Nat.le_of_ble_eq_true rfl, Nat.le_of_ble_eq_true rfl⟩ hl.1 (Nat.le_of_ble_eq_true rfl) dX3_init_31 (fun H locs hW hS => ?_)
  have hW := PB.nm (List.append_assoc L _ _) hW
  have hW : PB E (L ++ ([.inr (3, [rf E (a + 1), rf E (a + 7), .null, .null, .null, .null, .null, .int 0]), .inr (1, [rf E (a + 2), rf E (a + 3), rf E (a + 4), rf E (a + 5), rf E (a + 6)]), ar E 4 (fun _ => 0), ar E 24 (fun _ => 0), ar E 24 (fun _ => 0), ar E 24 (fun _ => 0), ar E 24 (fun _ => 0), .inr (0, [.int 0, rf E (a + 8), rf E (a + 9), rf E (a + 10), rf E (a + 11), rf E (a + 12), rf E (a + 13), rf E (a + 14), rf E (a + 15), rf E (a + 16)]), ar E 24 (fun _ => 0), ar E 24 (fun _ => 0), ar E 24 (fun _ => 0), ar E 24 (fun _ => 0), ar E 24 (fun _ => 0), ar E 24 (fun _ => 0), ar E 24 (fun _ => 0), ar E 24 (fun _ => 0), ar E 24 (fun _ => 0), .inr (2, [.int 0, rf E (a + 18), rf E (a + 19), rf E (a + 20), rf E (a + 21)]), ar E 24 (fun _ => 0), ar E 24 (fun _ => 0), ar E 24 (fun _ => 0), ar E 12 (fun _ => (-1))])) H := hW
  refine p_putF hx hb hB hK.1 (C := RX3) (T := TX3) (N := 8) (ci := 3) inB_X3 tyX3 tyX3_ok nmX3 hown hW hS ha 0 rfl rfl 2 (by decide) rfl rfl hin2 q_193 (ty := (.object "AmendsLedger$Precedents")) rfl rfl rfl (Nat.le_of_ble_eq_true rfl) dX3_init_34 (fun H locs hW hS => ?_)
  have hW : PB E (L ++ ([.inr (3, [rf E (a + 1), rf E (a + 7), rf E (a + 17), .null, .null, .null, .null, .int 0]), .inr (1, [rf E (a + 2), rf E (a + 3), rf E (a + 4), rf E (a + 5), rf E (a + 6)]), ar E 4 (fun _ => 0), ar E 24 (fun _ => 0), ar E 24 (fun _ => 0), ar E 24 (fun _ => 0), ar E 24 (fun _ => 0), .inr (0, [.int 0, rf E (a + 8), rf E (a + 9), rf E (a + 10), rf E (a + 11), rf E (a + 12), rf E (a + 13), rf E (a + 14), rf E (a + 15), rf E (a + 16)]), ar E 24 (fun _ => 0), ar E 24 (fun _ => 0), ar E 24 (fun _ => 0), ar E 24 (fun _ => 0), ar E 24 (fun _ => 0), ar E 24 (fun _ => 0), ar E 24 (fun _ => 0), ar E 24 (fun _ => 0), ar E 24 (fun _ => 0), .inr (2, [.int 0, rf E (a + 18), rf E (a + 19), rf E (a + 20), rf E (a + 21)]), ar E 24 (fun _ => 0), ar E 24 (fun _ => 0), ar E 24 (fun _ => 0), ar E 12 (fun _ => (-1))])) H := hW
  refine lv_aload_n hx hb dX3_init_37 rfl (lv_at hl 0 rfl) ?_
  refine lv_iconst (v := 3) hx hb dX3_init_38 (by decide) ?_
  refine p_newi hx hb hB hK.1 hW hS (N := 3) (j := 22) (by decide) (by decide) (Nat.le_of_ble_eq_true rfl) (Nat.le_of_ble_eq_true rfl) (Nat.le_of_ble_eq_true rfl) ha rfl dX3_init_39 (fun H hW hS => ?_)
  have hW : PB E (L ++ ([.inr (3, [rf E (a + 1), rf E (a + 7), rf E (a + 17), .null, .null, .null, .null, .int 0]), .inr (1, [rf E (a + 2), rf E (a + 3), rf E (a + 4), rf E (a + 5), rf E (a + 6)]), ar E 4 (fun _ => 0), ar E 24 (fun _ => 0), ar E 24 (fun _ => 0), ar E 24 (fun _ => 0), ar E 24 (fun _ => 0), .inr (0, [.int 0, rf E (a + 8), rf E (a + 9), rf E (a + 10), rf E (a + 11), rf E (a + 12), rf E (a + 13), rf E (a + 14), rf E (a + 15), rf E (a + 16)]), ar E 24 (fun _ => 0), ar E 24 (fun _ => 0), ar E 24 (fun _ => 0), ar E 24 (fun _ => 0), ar E 24 (fun _ => 0), ar E 24 (fun _ => 0), ar E 24 (fun _ => 0), ar E 24 (fun _ => 0), ar E 24 (fun _ => 0), .inr (2, [.int 0, rf E (a + 18), rf E (a + 19), rf E (a + 20), rf E (a + 21)]), ar E 24 (fun _ => 0), ar E 24 (fun _ => 0), ar E 24 (fun _ => 0), ar E 12 (fun _ => (-1)), ar E 3 (fun _ => 0)])) H := hW
  refine p_putF hx hb hB hK.1 (C := RX3) (T := TX3) (N := 8) (ci := 3) inB_X3 tyX3 tyX3_ok nmX3 hown hW hS ha 0 rfl rfl 3 (by decide) rfl rfl hin2 q_195 (ty := (.array .int)) rfl rfl rfl (Nat.le_of_ble_eq_true rfl) dX3_init_41 (fun H locs hW hS => ?_)
  have hW : PB E (L ++ ([.inr (3, [rf E (a + 1), rf E (a + 7), rf E (a + 17), rf E (a + 22), .null, .null, .null, .int 0]), .inr (1, [rf E (a + 2), rf E (a + 3), rf E (a + 4), rf E (a + 5), rf E (a + 6)]), ar E 4 (fun _ => 0), ar E 24 (fun _ => 0), ar E 24 (fun _ => 0), ar E 24 (fun _ => 0), ar E 24 (fun _ => 0), .inr (0, [.int 0, rf E (a + 8), rf E (a + 9), rf E (a + 10), rf E (a + 11), rf E (a + 12), rf E (a + 13), rf E (a + 14), rf E (a + 15), rf E (a + 16)]), ar E 24 (fun _ => 0), ar E 24 (fun _ => 0), ar E 24 (fun _ => 0), ar E 24 (fun _ => 0), ar E 24 (fun _ => 0), ar E 24 (fun _ => 0), ar E 24 (fun _ => 0), ar E 24 (fun _ => 0), ar E 24 (fun _ => 0), .inr (2, [.int 0, rf E (a + 18), rf E (a + 19), rf E (a + 20), rf E (a + 21)]), ar E 24 (fun _ => 0), ar E 24 (fun _ => 0), ar E 24 (fun _ => 0), ar E 12 (fun _ => (-1)), ar E 3 (fun _ => 0)])) H := hW
  refine lv_aload_n hx hb dX3_init_44 rfl (lv_at hl 0 rfl) ?_
  refine lv_iconst (v := 4) hx hb dX3_init_45 (by decide) ?_
  refine p_newi hx hb hB hK.1 hW hS (N := 4) (j := 23) (by decide) (by decide) (Nat.le_of_ble_eq_true rfl) (Nat.le_of_ble_eq_true rfl) (Nat.le_of_ble_eq_true rfl) ha rfl dX3_init_46 (fun H hW hS => ?_)
  have hW : PB E (L ++ ([.inr (3, [rf E (a + 1), rf E (a + 7), rf E (a + 17), rf E (a + 22), .null, .null, .null, .int 0]), .inr (1, [rf E (a + 2), rf E (a + 3), rf E (a + 4), rf E (a + 5), rf E (a + 6)]), ar E 4 (fun _ => 0), ar E 24 (fun _ => 0), ar E 24 (fun _ => 0), ar E 24 (fun _ => 0), ar E 24 (fun _ => 0), .inr (0, [.int 0, rf E (a + 8), rf E (a + 9), rf E (a + 10), rf E (a + 11), rf E (a + 12), rf E (a + 13), rf E (a + 14), rf E (a + 15), rf E (a + 16)]), ar E 24 (fun _ => 0), ar E 24 (fun _ => 0), ar E 24 (fun _ => 0), ar E 24 (fun _ => 0), ar E 24 (fun _ => 0), ar E 24 (fun _ => 0), ar E 24 (fun _ => 0), ar E 24 (fun _ => 0), ar E 24 (fun _ => 0), .inr (2, [.int 0, rf E (a + 18), rf E (a + 19), rf E (a + 20), rf E (a + 21)]), ar E 24 (fun _ => 0), ar E 24 (fun _ => 0), ar E 24 (fun _ => 0), ar E 12 (fun _ => (-1)), ar E 3 (fun _ => 0), ar E 4 (fun _ => 0)])) H := hW
  refine p_putF hx hb hB hK.1 (C := RX3) (T := TX3) (N := 8) (ci := 3) inB_X3 tyX3 tyX3_ok nmX3 hown hW hS ha 0 rfl rfl 4 (by decide) rfl rfl hin2 q_196 (ty := (.array .int)) rfl rfl rfl (Nat.le_of_ble_eq_true rfl) dX3_init_48 (fun H locs hW hS => ?_)
  have hW : PB E (L ++ ([.inr (3, [rf E (a + 1), rf E (a + 7), rf E (a + 17), rf E (a + 22), rf E (a + 23), .null, .null, .int 0]), .inr (1, [rf E (a + 2), rf E (a + 3), rf E (a + 4), rf E (a + 5), rf E (a + 6)]), ar E 4 (fun _ => 0), ar E 24 (fun _ => 0), ar E 24 (fun _ => 0), ar E 24 (fun _ => 0), ar E 24 (fun _ => 0), .inr (0, [.int 0, rf E (a + 8), rf E (a + 9), rf E (a + 10), rf E (a + 11), rf E (a + 12), rf E (a + 13), rf E (a + 14), rf E (a + 15), rf E (a + 16)]), ar E 24 (fun _ => 0), ar E 24 (fun _ => 0), ar E 24 (fun _ => 0), ar E 24 (fun _ => 0), ar E 24 (fun _ => 0), ar E 24 (fun _ => 0), ar E 24 (fun _ => 0), ar E 24 (fun _ => 0), ar E 24 (fun _ => 0), .inr (2, [.int 0, rf E (a + 18), rf E (a + 19), rf E (a + 20), rf E (a + 21)]), ar E 24 (fun _ => 0), ar E 24 (fun _ => 0), ar E 24 (fun _ => 0), ar E 12 (fun _ => (-1)), ar E 3 (fun _ => 0), ar E 4 (fun _ => 0)])) H := hW
  refine lv_aload_n hx hb dX3_init_51 rfl (lv_at hl 0 rfl) ?_
  refine lv_iconst (v := 4) hx hb dX3_init_52 (by decide) ?_
  refine p_newi hx hb hB hK.1 hW hS (N := 4) (j := 24) (by decide) (by decide) (Nat.le_of_ble_eq_true rfl) (Nat.le_of_ble_eq_true rfl) (Nat.le_of_ble_eq_true rfl) ha rfl dX3_init_53 (fun H hW hS => ?_)
  have hW : PB E (L ++ ([.inr (3, [rf E (a + 1), rf E (a + 7), rf E (a + 17), rf E (a + 22), rf E (a + 23), .null, .null, .int 0]), .inr (1, [rf E (a + 2), rf E (a + 3), rf E (a + 4), rf E (a + 5), rf E (a + 6)]), ar E 4 (fun _ => 0), ar E 24 (fun _ => 0), ar E 24 (fun _ => 0), ar E 24 (fun _ => 0), ar E 24 (fun _ => 0), .inr (0, [.int 0, rf E (a + 8), rf E (a + 9), rf E (a + 10), rf E (a + 11), rf E (a + 12), rf E (a + 13), rf E (a + 14), rf E (a + 15), rf E (a + 16)]), ar E 24 (fun _ => 0), ar E 24 (fun _ => 0), ar E 24 (fun _ => 0), ar E 24 (fun _ => 0), ar E 24 (fun _ => 0), ar E 24 (fun _ => 0), ar E 24 (fun _ => 0), ar E 24 (fun _ => 0), ar E 24 (fun _ => 0), .inr (2, [.int 0, rf E (a + 18), rf E (a + 19), rf E (a + 20), rf E (a + 21)]), ar E 24 (fun _ => 0), ar E 24 (fun _ => 0), ar E 24 (fun _ => 0), ar E 12 (fun _ => (-1)), ar E 3 (fun _ => 0), ar E 4 (fun _ => 0), ar E 4 (fun _ => 0)])) H := hW
  refine p_putF hx hb hB hK.1 (C := RX3) (T := TX3) (N := 8) (ci := 3) inB_X3 tyX3 tyX3_ok nmX3 hown hW hS ha 0 rfl rfl 5 (by decide) rfl rfl hin2 q_197 (ty := (.array .int)) rfl rfl rfl (Nat.le_of_ble_eq_true rfl) dX3_init_55 (fun H locs hW hS => ?_)
  have hW : PB E (L ++ ([.inr (3, [rf E (a + 1), rf E (a + 7), rf E (a + 17), rf E (a + 22), rf E (a + 23), rf E (a + 24), .null, .int 0]), .inr (1, [rf E (a + 2), rf E (a + 3), rf E (a + 4), rf E (a + 5), rf E (a + 6)]), ar E 4 (fun _ => 0), ar E 24 (fun _ => 0), ar E 24 (fun _ => 0), ar E 24 (fun _ => 0), ar E 24 (fun _ => 0), .inr (0, [.int 0, rf E (a + 8), rf E (a + 9), rf E (a + 10), rf E (a + 11), rf E (a + 12), rf E (a + 13), rf E (a + 14), rf E (a + 15), rf E (a + 16)]), ar E 24 (fun _ => 0), ar E 24 (fun _ => 0), ar E 24 (fun _ => 0), ar E 24 (fun _ => 0), ar E 24 (fun _ => 0), ar E 24 (fun _ => 0), ar E 24 (fun _ => 0), ar E 24 (fun _ => 0), ar E 24 (fun _ => 0), .inr (2, [.int 0, rf E (a + 18), rf E (a + 19), rf E (a + 20), rf E (a + 21)]), ar E 24 (fun _ => 0), ar E 24 (fun _ => 0), ar E 24 (fun _ => 0), ar E 12 (fun _ => (-1)), ar E 3 (fun _ => 0), ar E 4 (fun _ => 0), ar E 4 (fun _ => 0)])) H := hW
  refine lv_aload_n hx hb dX3_init_58 rfl (lv_at hl 0 rfl) ?_
  refine lv_iconst (v := 4) hx hb dX3_init_59 (by decide) ?_
  refine p_newi hx hb hB hK.1 hW hS (N := 4) (j := 25) (by decide) (by decide) (Nat.le_of_ble_eq_true rfl) (Nat.le_of_ble_eq_true rfl) (Nat.le_of_ble_eq_true rfl) ha rfl dX3_init_60 (fun H hW hS => ?_)
  have hW : PB E (L ++ ([.inr (3, [rf E (a + 1), rf E (a + 7), rf E (a + 17), rf E (a + 22), rf E (a + 23), rf E (a + 24), .null, .int 0]), .inr (1, [rf E (a + 2), rf E (a + 3), rf E (a + 4), rf E (a + 5), rf E (a + 6)]), ar E 4 (fun _ => 0), ar E 24 (fun _ => 0), ar E 24 (fun _ => 0), ar E 24 (fun _ => 0), ar E 24 (fun _ => 0), .inr (0, [.int 0, rf E (a + 8), rf E (a + 9), rf E (a + 10), rf E (a + 11), rf E (a + 12), rf E (a + 13), rf E (a + 14), rf E (a + 15), rf E (a + 16)]), ar E 24 (fun _ => 0), ar E 24 (fun _ => 0), ar E 24 (fun _ => 0), ar E 24 (fun _ => 0), ar E 24 (fun _ => 0), ar E 24 (fun _ => 0), ar E 24 (fun _ => 0), ar E 24 (fun _ => 0), ar E 24 (fun _ => 0), .inr (2, [.int 0, rf E (a + 18), rf E (a + 19), rf E (a + 20), rf E (a + 21)]), ar E 24 (fun _ => 0), ar E 24 (fun _ => 0), ar E 24 (fun _ => 0), ar E 12 (fun _ => (-1)), ar E 3 (fun _ => 0), ar E 4 (fun _ => 0), ar E 4 (fun _ => 0), ar E 4 (fun _ => 0)])) H := hW
  refine p_putF hx hb hB hK.1 (C := RX3) (T := TX3) (N := 8) (ci := 3) inB_X3 tyX3 tyX3_ok nmX3 hown hW hS ha 0 rfl rfl 6 (by decide) rfl rfl hin2 q_198 (ty := (.array .int)) rfl rfl rfl (Nat.le_of_ble_eq_true rfl) dX3_init_62 (fun H locs hW hS => ?_)
  have hW : PB E (L ++ ([.inr (3, [rf E (a + 1), rf E (a + 7), rf E (a + 17), rf E (a + 22), rf E (a + 23), rf E (a + 24), rf E (a + 25), .int 0]), .inr (1, [rf E (a + 2), rf E (a + 3), rf E (a + 4), rf E (a + 5), rf E (a + 6)]), ar E 4 (fun _ => 0), ar E 24 (fun _ => 0), ar E 24 (fun _ => 0), ar E 24 (fun _ => 0), ar E 24 (fun _ => 0), .inr (0, [.int 0, rf E (a + 8), rf E (a + 9), rf E (a + 10), rf E (a + 11), rf E (a + 12), rf E (a + 13), rf E (a + 14), rf E (a + 15), rf E (a + 16)]), ar E 24 (fun _ => 0), ar E 24 (fun _ => 0), ar E 24 (fun _ => 0), ar E 24 (fun _ => 0), ar E 24 (fun _ => 0), ar E 24 (fun _ => 0), ar E 24 (fun _ => 0), ar E 24 (fun _ => 0), ar E 24 (fun _ => 0), .inr (2, [.int 0, rf E (a + 18), rf E (a + 19), rf E (a + 20), rf E (a + 21)]), ar E 24 (fun _ => 0), ar E 24 (fun _ => 0), ar E 24 (fun _ => 0), ar E 12 (fun _ => (-1)), ar E 3 (fun _ => 0), ar E 4 (fun _ => 0), ar E 4 (fun _ => 0), ar E 4 (fun _ => 0)])) H := hW
  refine va_getsN hx hb hK.1.2.2.1.1.1 hS hown (va_Nw.use rfl (hK.1.nw nw_177)) (fun _ h9 => h9) dX3_init_65 ?_
  refine lv_aload_n hx hb dX3_init_68 rfl (lv_at hl 0 rfl) ?_
  refine p_get hx hb hB hK.1 (C := RX3) (T := TX3) (N := 8) (ci := 3) inB_X3 hown hW ha 0 rfl rfl 3 (by decide) rfl q_195 (v := rf E (a + 22)) rfl dX3_init_69 ?_
  refine c_SN (As := [.ref (eF E), rf E (a + 22)]) (st1 := []) (rest := []) (m_copy l E (pb_get ha rfl)) (kc_X3_48 hB hK.1 ⟨Nat.le_of_ble_eq_true rfl, Nat.le_of_ble_eq_true rfl⟩) hx hb hml hown hB hK.1 hW hS ⟨Nat.le_of_ble_eq_true rfl, Nat.le_of_ble_eq_true rfl⟩ rfl hl.1 rfl (Nat.le_of_ble_eq_true rfl) rfl dX3_init_72 (fun H locs hW hS => ?_)
  have hW := PB.nm (pb_set ha) hW
  have hW : PB E (L ++ ([.inr (3, [rf E (a + 1), rf E (a + 7), rf E (a + 17), rf E (a + 22), rf E (a + 23), rf E (a + 24), rf E (a + 25), .int 0]), .inr (1, [rf E (a + 2), rf E (a + 3), rf E (a + 4), rf E (a + 5), rf E (a + 6)]), ar E 4 (fun _ => 0), ar E 24 (fun _ => 0), ar E 24 (fun _ => 0), ar E 24 (fun _ => 0), ar E 24 (fun _ => 0), .inr (0, [.int 0, rf E (a + 8), rf E (a + 9), rf E (a + 10), rf E (a + 11), rf E (a + 12), rf E (a + 13), rf E (a + 14), rf E (a + 15), rf E (a + 16)]), ar E 24 (fun _ => 0), ar E 24 (fun _ => 0), ar E 24 (fun _ => 0), ar E 24 (fun _ => 0), ar E 24 (fun _ => 0), ar E 24 (fun _ => 0), ar E 24 (fun _ => 0), ar E 24 (fun _ => 0), ar E 24 (fun _ => 0), .inr (2, [.int 0, rf E (a + 18), rf E (a + 19), rf E (a + 20), rf E (a + 21)]), ar E 24 (fun _ => 0), ar E 24 (fun _ => 0), ar E 24 (fun _ => 0), ar E 12 (fun _ => (-1)), ar E 3 fF, ar E 4 (fun _ => 0), ar E 4 (fun _ => 0), ar E 4 (fun _ => 0)])) H := hW
  refine lv_aload_n hx hb dX3_init_75 rfl (lv_at hl 0 rfl) ?_
  refine p_get hx hb hB hK.1 (C := RX3) (T := TX3) (N := 8) (ci := 3) inB_X3 hown hW ha 0 rfl rfl 4 (by decide) rfl q_196 (v := rf E (a + 23)) rfl dX3_init_76 ?_
  refine lv_sipush (v := 500) hx hb dX3_init_79 (by decide) ?_
  refine c_S (As := [rf E (a + 23), .int 500]) (st1 := []) (rest := []) (m_fill l E 500 (n := 4) (by decide) (pb_get ha rfl)) (k_S (k := 2) hB qm_fco qm_fin q_188 qm_fst (by decide +kernel) ⟨Nat.le_of_ble_eq_true rfl, Nat.le_of_ble_eq_true rfl⟩) hx hb hml hown hB hK.1 hW hS ⟨Nat.le_of_ble_eq_true rfl, Nat.le_of_ble_eq_true rfl⟩ rfl hl.1 rfl (Nat.le_of_ble_eq_true rfl) rfl dX3_init_82 (fun H locs hW hS => ?_)
  have hW := PB.nm (pb_set ha) hW
  have hW : PB E (L ++ ([.inr (3, [rf E (a + 1), rf E (a + 7), rf E (a + 17), rf E (a + 22), rf E (a + 23), rf E (a + 24), rf E (a + 25), .int 0]), .inr (1, [rf E (a + 2), rf E (a + 3), rf E (a + 4), rf E (a + 5), rf E (a + 6)]), ar E 4 (fun _ => 0), ar E 24 (fun _ => 0), ar E 24 (fun _ => 0), ar E 24 (fun _ => 0), ar E 24 (fun _ => 0), .inr (0, [.int 0, rf E (a + 8), rf E (a + 9), rf E (a + 10), rf E (a + 11), rf E (a + 12), rf E (a + 13), rf E (a + 14), rf E (a + 15), rf E (a + 16)]), ar E 24 (fun _ => 0), ar E 24 (fun _ => 0), ar E 24 (fun _ => 0), ar E 24 (fun _ => 0), ar E 24 (fun _ => 0), ar E 24 (fun _ => 0), ar E 24 (fun _ => 0), ar E 24 (fun _ => 0), ar E 24 (fun _ => 0), .inr (2, [.int 0, rf E (a + 18), rf E (a + 19), rf E (a + 20), rf E (a + 21)]), ar E 24 (fun _ => 0), ar E 24 (fun _ => 0), ar E 24 (fun _ => 0), ar E 12 (fun _ => (-1)), ar E 3 fF, ar E 4 (fun _ => 500), ar E 4 (fun _ => 0), ar E 4 (fun _ => 0)])) H := hW
  refine lv_aload_n hx hb dX3_init_85 rfl (lv_at hl 0 rfl) ?_
  refine p_get hx hb hB hK.1 (C := RX3) (T := TX3) (N := 8) (ci := 3) inB_X3 hown hW ha 0 rfl rfl 5 (by decide) rfl q_197 (v := rf E (a + 24)) rfl dX3_init_86 ?_
  refine lv_sipush (v := 500) hx hb dX3_init_89 (by decide) ?_
  refine c_S (As := [rf E (a + 24), .int 500]) (st1 := []) (rest := []) (m_fill l E 500 (n := 4) (by decide) (pb_get ha rfl)) (k_S (k := 2) hB qm_fco qm_fin q_188 qm_fst (by decide +kernel) ⟨Nat.le_of_ble_eq_true rfl, Nat.le_of_ble_eq_true rfl⟩) hx hb hml hown hB hK.1 hW hS ⟨Nat.le_of_ble_eq_true rfl, Nat.le_of_ble_eq_true rfl⟩ rfl hl.1 rfl (Nat.le_of_ble_eq_true rfl) rfl dX3_init_92 (fun H locs hW hS => ?_)
  have hW := PB.nm (pb_set ha) hW
  have hW : PB E (L ++ ([.inr (3, [rf E (a + 1), rf E (a + 7), rf E (a + 17), rf E (a + 22), rf E (a + 23), rf E (a + 24), rf E (a + 25), .int 0]), .inr (1, [rf E (a + 2), rf E (a + 3), rf E (a + 4), rf E (a + 5), rf E (a + 6)]), ar E 4 (fun _ => 0), ar E 24 (fun _ => 0), ar E 24 (fun _ => 0), ar E 24 (fun _ => 0), ar E 24 (fun _ => 0), .inr (0, [.int 0, rf E (a + 8), rf E (a + 9), rf E (a + 10), rf E (a + 11), rf E (a + 12), rf E (a + 13), rf E (a + 14), rf E (a + 15), rf E (a + 16)]), ar E 24 (fun _ => 0), ar E 24 (fun _ => 0), ar E 24 (fun _ => 0), ar E 24 (fun _ => 0), ar E 24 (fun _ => 0), ar E 24 (fun _ => 0), ar E 24 (fun _ => 0), ar E 24 (fun _ => 0), ar E 24 (fun _ => 0), .inr (2, [.int 0, rf E (a + 18), rf E (a + 19), rf E (a + 20), rf E (a + 21)]), ar E 24 (fun _ => 0), ar E 24 (fun _ => 0), ar E 24 (fun _ => 0), ar E 12 (fun _ => (-1)), ar E 3 fF, ar E 4 (fun _ => 500), ar E 4 (fun _ => 500), ar E 4 (fun _ => 0)])) H := hW
  exact e_c hx hb hr hlk hW hS dX3_init_95
def finX4 (E : TE) (a : Nat) : List va_E := [.inr (4, [rf E (a + 1), rf E (a + 27), rf E (a + 53), .int 0, .int 0, rf E (a + 54), .int 0])] ++ (stC E (a + 1) ++ (stC E (a + 27) ++ ([.inl (eS E, 6, .inr (.inr (.inr (.inr (va_up (va_up (va_up (va_up (va_up (va_up (fun _ => none) 0 (some (eh E + (a + 55)))) 1 (some (eh E + (a + 81)))) 2 (some (eh E + (a + 107)))) 3 (some (eh E + (a + 133)))) 4 (some (eh E + (a + 159)))) 5 (some (eh E + (a + 185)))))))), ar E 60 (fun _ => 0)] ++ (stC E (a + 55) ++ (stC E (a + 81) ++ (stC E (a + 107) ++ (stC E (a + 133) ++ (stC E (a + 159) ++ (stC E (a + 185))))))))))
theorem dX4_init_0 : decode cX4_init 0 = .ok (.aload_n 0, 1) := by decide +kernel
theorem dX4_init_1 : decode cX4_init 1 = .ok (.invokespecial 1, 3) := by decide +kernel
theorem dX4_init_4 : decode cX4_init 4 = .ok (.aload_n 0, 1) := by decide +kernel
theorem dX4_init_5 : decode cX4_init 5 = .ok (.new 7, 3) := by decide +kernel
theorem dX4_init_8 : decode cX4_init 8 = .ok (.dup, 1) := by decide +kernel
theorem dX4_init_9 : decode cX4_init 9 = .ok (.invokespecial 9, 3) := by decide +kernel
theorem dX4_init_12 : decode cX4_init 12 = .ok (.putfield 10, 3) := by decide +kernel
theorem dX4_init_15 : decode cX4_init 15 = .ok (.aload_n 0, 1) := by decide +kernel
theorem dX4_init_16 : decode cX4_init 16 = .ok (.new 7, 3) := by decide +kernel
theorem dX4_init_19 : decode cX4_init 19 = .ok (.dup, 1) := by decide +kernel
theorem dX4_init_20 : decode cX4_init 20 = .ok (.invokespecial 9, 3) := by decide +kernel
theorem dX4_init_23 : decode cX4_init 23 = .ok (.putfield 16, 3) := by decide +kernel
theorem dX4_init_26 : decode cX4_init 26 = .ok (.aload_n 0, 1) := by decide +kernel
theorem dX4_init_27 : decode cX4_init 27 = .ok (.bipush 6, 2) := by decide +kernel
theorem dX4_init_29 : decode cX4_init 29 = .ok (.anewarray 7, 3) := by decide +kernel
theorem dX4_init_32 : decode cX4_init 32 = .ok (.putfield 19, 3) := by decide +kernel
theorem dX4_init_35 : decode cX4_init 35 = .ok (.aload_n 0, 1) := by decide +kernel
theorem dX4_init_36 : decode cX4_init 36 = .ok (.bipush 60, 2) := by decide +kernel
theorem dX4_init_38 : decode cX4_init 38 = .ok (.newarray .int, 2) := by decide +kernel
theorem dX4_init_40 : decode cX4_init 40 = .ok (.putfield 23, 3) := by decide +kernel
theorem dX4_init_43 : decode cX4_init 43 = .ok (.iconst 0, 1) := by decide +kernel
theorem dX4_init_44 : decode cX4_init 44 = .ok (.istore_n 1, 1) := by decide +kernel
theorem dX4_init_45 : decode cX4_init 45 = .ok (.iload_n 1, 1) := by decide +kernel
theorem dX4_init_46 : decode cX4_init 46 = .ok (.bipush 6, 2) := by decide +kernel
theorem dX4_init_48 : decode cX4_init 48 = .ok (.if_icmp .ge 22, 3) := by decide +kernel
theorem dX4_init_51 : decode cX4_init 51 = .ok (.aload_n 0, 1) := by decide +kernel
theorem dX4_init_52 : decode cX4_init 52 = .ok (.getfield 19, 3) := by decide +kernel
theorem dX4_init_55 : decode cX4_init 55 = .ok (.iload_n 1, 1) := by decide +kernel
theorem dX4_init_56 : decode cX4_init 56 = .ok (.new 7, 3) := by decide +kernel
theorem dX4_init_59 : decode cX4_init 59 = .ok (.dup, 1) := by decide +kernel
theorem dX4_init_60 : decode cX4_init 60 = .ok (.invokespecial 9, 3) := by decide +kernel
theorem dX4_init_63 : decode cX4_init 63 = .ok (.aastore, 1) := by decide +kernel
theorem dX4_init_64 : decode cX4_init 64 = .ok (.iinc 1 1, 3) := by decide +kernel
theorem dX4_init_67 : decode cX4_init 67 = .ok (.goto (-22), 3) := by decide +kernel
theorem dX4_init_70 : decode cX4_init 70 = .ok (.return_, 1) := by decide +kernel
set_option maxRecDepth 100000 in
set_option maxHeartbeats 4000000 in
theorem i_X4 (l : Launch) (E : TE) (L : List va_E) (a : Nat) (ha : L.length = a) : MC l E yX4_init cX4_init 2 4 210 3610 [rf E a] (PB E (L ++ [.inr (4, [.null, .null, .null, .int 0, .int 0, .null, .int 0])])) (PB E (L ++ (finX4 E a))) := by
  refine mk_in (by decide) (Nat.le_of_ble_eq_true rfl) ?_
  intro p e s mi args below meth c H ls hx hb hr hlk hml hown hin2 hB hK hW hS hl
  have hl : lv_has ls 2 [(0, rf E a)] := hl
  refine lv_aload_n hx hb dX4_init_0 rfl (lv_at hl 0 rfl) ?_
  refine W.objInit hx hb hown (hB _ qm_olX4) (hB _ qm_oiI) (hB _ qm_oiC) rfl (hl.1.trans hml.symm) rfl dX4_init_1 (Nat.le_of_ble_eq_true rfl) (Nat.le_of_ble_eq_true rfl) ?_
  show W p l e _ s mi args below meth c H [] 0 0 _ (F0 mi 4 ls [])
  refine lv_aload_n hx hb dX4_init_4 rfl (lv_at hl 0 rfl) ?_
  refine p_new hx hb hB hK.1 (C := RX3) (T := TX3) (N := 8) (ci := 3) inB_X3 tyX3 tyX3_ok hown q_83 qm_inX3 qm_irX3 hW hS rfl (fs := [.null, .null, .null, .null, .null, .null, .null, .int 0]) (fun j hj => by rcases (show j = 0 ∨ j = 1 ∨ j = 2 ∨ j = 3 ∨ j = 4 ∨ j = 5 ∨ j = 6 ∨ j = 7 by omega) with rfl | rfl | rfl | rfl | rfl | rfl | rfl | rfl <;> rfl) (Nat.le_of_ble_eq_true rfl) (Nat.le_of_ble_eq_true rfl) (pb_len (j := 1) ha rfl) dX4_init_5 (fun H hW hS => ?_)
  refine lv_dup hx hb dX4_init_8 rfl ?_
  refine c_I (rest := [rf E (a + 1), rf E (a + 0)]) (i_X3 l E (L ++ ([.inr (4, [.null, .null, .null, .int 0, .int 0, .null, .int 0])])) (a + 1) (pb_len ha rfl)) (kw_I hB qm_icX3 qm_irX3 q_85 qm_iiX3 rfl (by decide +kernel) ⟨Nat.le_of_ble_eq_true rfl, Nat.le_of_ble_eq_true rfl⟩) hx hb hml hown hB hK hW hS ⟨Nat.le_of_ble_eq_true rfl, Nat.le_of_ble_eq_true rfl⟩ hl.1 (Nat.le_of_ble_eq_true rfl) dX4_init_9 (fun H locs hW hS => ?_)
  have hW := PB.nm (List.append_assoc L _ _) hW
  have hW : PB E (L ++ ([.inr (4, [.null, .null, .null, .int 0, .int 0, .null, .int 0])] ++ (stC E (a + 1)))) H := hW
  refine p_putF hx hb hB hK.1 (C := RX4) (T := TX4) (N := 7) (ci := 4) inB_X4 tyX4 tyX4_ok nmX4 hown hW hS ha 0 rfl rfl 0 (by decide) rfl rfl hin2 q_219 (ty := (.object "AmendsLedger$State")) rfl rfl rfl (Nat.le_of_ble_eq_true rfl) dX4_init_12 (fun H locs hW hS => ?_)
  have hW : PB E (L ++ ([.inr (4, [rf E (a + 1), .null, .null, .int 0, .int 0, .null, .int 0])] ++ (stC E (a + 1)))) H := hW
  refine lv_aload_n hx hb dX4_init_15 rfl (lv_at hl 0 rfl) ?_
  refine p_new hx hb hB hK.1 (C := RX3) (T := TX3) (N := 8) (ci := 3) inB_X3 tyX3 tyX3_ok hown q_83 qm_inX3 qm_irX3 hW hS rfl (fs := [.null, .null, .null, .null, .null, .null, .null, .int 0]) (fun j hj => by rcases (show j = 0 ∨ j = 1 ∨ j = 2 ∨ j = 3 ∨ j = 4 ∨ j = 5 ∨ j = 6 ∨ j = 7 by omega) with rfl | rfl | rfl | rfl | rfl | rfl | rfl | rfl <;> rfl) (Nat.le_of_ble_eq_true rfl) (Nat.le_of_ble_eq_true rfl) (pb_len (j := 27) ha rfl) dX4_init_16 (fun H hW hS => ?_)
  refine lv_dup hx hb dX4_init_19 rfl ?_
  refine c_I (rest := [rf E (a + 27), rf E (a + 0)]) (i_X3 l E (L ++ ([.inr (4, [rf E (a + 1), .null, .null, .int 0, .int 0, .null, .int 0])] ++ (stC E (a + 1)))) (a + 27) (pb_len ha rfl)) (kw_I hB qm_icX3 qm_irX3 q_85 qm_iiX3 rfl (by decide +kernel) ⟨Nat.le_of_ble_eq_true rfl, Nat.le_of_ble_eq_true rfl⟩) hx hb hml hown hB hK hW hS ⟨Nat.le_of_ble_eq_true rfl, Nat.le_of_ble_eq_true rfl⟩ hl.1 (Nat.le_of_ble_eq_true rfl) dX4_init_20 (fun H locs hW hS => ?_)
  have hW := PB.nm (List.append_assoc L _ _) hW
  have hW : PB E (L ++ ([.inr (4, [rf E (a + 1), .null, .null, .int 0, .int 0, .null, .int 0])] ++ (stC E (a + 1) ++ (stC E (a + 27))))) H := hW
  refine p_putF hx hb hB hK.1 (C := RX4) (T := TX4) (N := 7) (ci := 4) inB_X4 tyX4 tyX4_ok nmX4 hown hW hS ha 0 rfl rfl 1 (by decide) rfl rfl hin2 q_220 (ty := (.object "AmendsLedger$State")) rfl rfl rfl (Nat.le_of_ble_eq_true rfl) dX4_init_23 (fun H locs hW hS => ?_)
  have hW : PB E (L ++ ([.inr (4, [rf E (a + 1), rf E (a + 27), .null, .int 0, .int 0, .null, .int 0])] ++ (stC E (a + 1) ++ (stC E (a + 27))))) H := hW
  refine lv_aload_n hx hb dX4_init_26 rfl (lv_at hl 0 rfl) ?_
  refine lv_bipush (v := 6) hx hb dX4_init_27 (by decide) ?_
  refine p_newq hx hb hB hK hown q_83 hW hS (N := 6) (j := 53) (by decide) (by decide) (Nat.le_of_ble_eq_true rfl) (Nat.le_of_ble_eq_true rfl) (Nat.le_of_ble_eq_true rfl) ha rfl dX4_init_29 (fun H hW hS => ?_)
  have hW : PB E (L ++ ([.inr (4, [rf E (a + 1), rf E (a + 27), .null, .int 0, .int 0, .null, .int 0])] ++ (stC E (a + 1) ++ (stC E (a + 27) ++ ([.inl (eS E, 6, .inr (.inr (.inr (.inr (fun _ => none)))))]))))) H := hW
  refine p_putF hx hb hB hK.1 (C := RX4) (T := TX4) (N := 7) (ci := 4) inB_X4 tyX4 tyX4_ok nmX4 hown hW hS ha 0 rfl rfl 2 (by decide) rfl rfl hin2 q_221 (ty := (.array (.object "AmendsLedger$State"))) rfl rfl rfl (Nat.le_of_ble_eq_true rfl) dX4_init_32 (fun H locs hW hS => ?_)
  have hW : PB E (L ++ ([.inr (4, [rf E (a + 1), rf E (a + 27), rf E (a + 53), .int 0, .int 0, .null, .int 0])] ++ (stC E (a + 1) ++ (stC E (a + 27) ++ ([.inl (eS E, 6, .inr (.inr (.inr (.inr (fun _ => none)))))]))))) H := hW
  refine lv_aload_n hx hb dX4_init_35 rfl (lv_at hl 0 rfl) ?_
  refine lv_bipush (v := 60) hx hb dX4_init_36 (by decide) ?_
  refine p_newi hx hb hB hK.1 hW hS (N := 60) (j := 54) (by decide) (by decide) (Nat.le_of_ble_eq_true rfl) (Nat.le_of_ble_eq_true rfl) (Nat.le_of_ble_eq_true rfl) ha rfl dX4_init_38 (fun H hW hS => ?_)
  have hW : PB E (L ++ ([.inr (4, [rf E (a + 1), rf E (a + 27), rf E (a + 53), .int 0, .int 0, .null, .int 0])] ++ (stC E (a + 1) ++ (stC E (a + 27) ++ ([.inl (eS E, 6, .inr (.inr (.inr (.inr (fun _ => none))))), ar E 60 (fun _ => 0)]))))) H := hW
  refine p_putF hx hb hB hK.1 (C := RX4) (T := TX4) (N := 7) (ci := 4) inB_X4 tyX4 tyX4_ok nmX4 hown hW hS ha 0 rfl rfl 5 (by decide) rfl rfl hin2 q_224 (ty := (.array .int)) rfl rfl rfl (Nat.le_of_ble_eq_true rfl) dX4_init_40 (fun H locs hW hS => ?_)
  have hW : PB E (L ++ ([.inr (4, [rf E (a + 1), rf E (a + 27), rf E (a + 53), .int 0, .int 0, rf E (a + 54), .int 0])] ++ (stC E (a + 1) ++ (stC E (a + 27) ++ ([.inl (eS E, 6, .inr (.inr (.inr (.inr (fun _ => none))))), ar E 60 (fun _ => 0)]))))) H := hW
  refine lv_iconst (v := 0) hx hb dX4_init_43 (by decide) ?_
  refine lv_istore_n (lv' := [(1, .int 0), (0, rf E a)]) hx hb dX4_init_44 rfl hl (by decide) rfl (fun ls hl => ?_)
  refine lv_iload_n hx hb dX4_init_45 rfl (lv_at hl 0 rfl) ?_
  refine lv_bipush (v := 6) hx hb dX4_init_46 (by decide) ?_
  refine lv_icmp_ge (tgt := 70) hx hb dX4_init_48 (by decide) (fun c1 => absurd c1 (by decide)) (fun _ => ?_)
  refine lv_aload_n hx hb dX4_init_51 rfl (lv_at hl 1 rfl) ?_
  refine p_get hx hb hB hK.1 (C := RX4) (T := TX4) (N := 7) (ci := 4) inB_X4 hown hW ha 0 rfl rfl 2 (by decide) rfl q_221 (v := rf E (a + 53)) rfl dX4_init_52 ?_
  refine lv_iload_n hx hb dX4_init_55 rfl (lv_at hl 0 rfl) ?_
  refine p_new hx hb hB hK.1 (C := RX3) (T := TX3) (N := 8) (ci := 3) inB_X3 tyX3 tyX3_ok hown q_83 qm_inX3 qm_irX3 hW hS rfl (fs := [.null, .null, .null, .null, .null, .null, .null, .int 0]) (fun j hj => by rcases (show j = 0 ∨ j = 1 ∨ j = 2 ∨ j = 3 ∨ j = 4 ∨ j = 5 ∨ j = 6 ∨ j = 7 by omega) with rfl | rfl | rfl | rfl | rfl | rfl | rfl | rfl <;> rfl) (Nat.le_of_ble_eq_true rfl) (Nat.le_of_ble_eq_true rfl) (pb_len (j := 55) ha rfl) dX4_init_56 (fun H hW hS => ?_)
  refine lv_dup hx hb dX4_init_59 rfl ?_
  refine c_I (rest := [rf E (a + 55), .int 0, rf E (a + 53)]) (i_X3 l E (L ++ ([.inr (4, [rf E (a + 1), rf E (a + 27), rf E (a + 53), .int 0, .int 0, rf E (a + 54), .int 0])] ++ (stC E (a + 1) ++ (stC E (a + 27) ++ ([.inl (eS E, 6, .inr (.inr (.inr (.inr (fun _ => none))))), ar E 60 (fun _ => 0)]))))) (a + 55) (pb_len ha rfl)) (kw_I hB qm_icX3 qm_irX3 q_85 qm_iiX3 rfl (by decide +kernel) ⟨Nat.le_of_ble_eq_true rfl, Nat.le_of_ble_eq_true rfl⟩) hx hb hml hown hB hK hW hS ⟨Nat.le_of_ble_eq_true rfl, Nat.le_of_ble_eq_true rfl⟩ hl.1 (Nat.le_of_ble_eq_true rfl) dX4_init_60 (fun H locs hW hS => ?_)
  have hW := PB.nm (List.append_assoc L _ _) hW
  have hW : PB E (L ++ ([.inr (4, [rf E (a + 1), rf E (a + 27), rf E (a + 53), .int 0, .int 0, rf E (a + 54), .int 0])] ++ (stC E (a + 1) ++ (stC E (a + 27) ++ ([.inl (eS E, 6, .inr (.inr (.inr (.inr (fun _ => none))))), ar E 60 (fun _ => 0)] ++ (stC E (a + 55))))))) H := hW
  refine p_aast hx hb hK.1 hW hS ha 53 55 rfl (fs := [rf E (a + 55 + 1), rf E (a + 55 + 7), rf E (a + 55 + 17), rf E (a + 55 + 22), rf E (a + 55 + 23), rf E (a + 55 + 24), rf E (a + 55 + 25), .int 0]) rfl (vp_in_nI (n := 0) (by decide) (by decide)) dX4_init_63 (fun H locs hW hS => ?_)
  have hW : PB E (L ++ ([.inr (4, [rf E (a + 1), rf E (a + 27), rf E (a + 53), .int 0, .int 0, rf E (a + 54), .int 0])] ++ (stC E (a + 1) ++ (stC E (a + 27) ++ ([.inl (eS E, 6, .inr (.inr (.inr (.inr (va_up (fun _ => none) 0 (some (eh E + (a + 55)))))))), ar E 60 (fun _ => 0)] ++ (stC E (a + 55))))))) H := hW
  refine lv_iinc (v := 1) (lv' := [(1, .int 1), (0, rf E a)]) hx hb dX4_init_64 hl (k := 0) rfl (by decide) (by decide) rfl (fun ls hl => ?_)
  refine lv_goto (tgt := 45) hx hb dX4_init_67 (by decide) ?_
  refine lv_iload_n hx hb dX4_init_45 rfl (lv_at hl 0 rfl) ?_
  refine lv_bipush (v := 6) hx hb dX4_init_46 (by decide) ?_
  refine lv_icmp_ge (tgt := 70) hx hb dX4_init_48 (by decide) (fun c1 => absurd c1 (by decide)) (fun _ => ?_)
  refine lv_aload_n hx hb dX4_init_51 rfl (lv_at hl 1 rfl) ?_
  refine p_get hx hb hB hK.1 (C := RX4) (T := TX4) (N := 7) (ci := 4) inB_X4 hown hW ha 0 rfl rfl 2 (by decide) rfl q_221 (v := rf E (a + 53)) rfl dX4_init_52 ?_
  refine lv_iload_n hx hb dX4_init_55 rfl (lv_at hl 0 rfl) ?_
  refine p_new hx hb hB hK.1 (C := RX3) (T := TX3) (N := 8) (ci := 3) inB_X3 tyX3 tyX3_ok hown q_83 qm_inX3 qm_irX3 hW hS rfl (fs := [.null, .null, .null, .null, .null, .null, .null, .int 0]) (fun j hj => by rcases (show j = 0 ∨ j = 1 ∨ j = 2 ∨ j = 3 ∨ j = 4 ∨ j = 5 ∨ j = 6 ∨ j = 7 by omega) with rfl | rfl | rfl | rfl | rfl | rfl | rfl | rfl <;> rfl) (Nat.le_of_ble_eq_true rfl) (Nat.le_of_ble_eq_true rfl) (pb_len (j := 81) ha rfl) dX4_init_56 (fun H hW hS => ?_)
  refine lv_dup hx hb dX4_init_59 rfl ?_
  refine c_I (rest := [rf E (a + 81), .int 1, rf E (a + 53)]) (i_X3 l E (L ++ ([.inr (4, [rf E (a + 1), rf E (a + 27), rf E (a + 53), .int 0, .int 0, rf E (a + 54), .int 0])] ++ (stC E (a + 1) ++ (stC E (a + 27) ++ ([.inl (eS E, 6, .inr (.inr (.inr (.inr (va_up (fun _ => none) 0 (some (eh E + (a + 55)))))))), ar E 60 (fun _ => 0)] ++ (stC E (a + 55))))))) (a + 81) (pb_len ha rfl)) (kw_I hB qm_icX3 qm_irX3 q_85 qm_iiX3 rfl (by decide +kernel) ⟨Nat.le_of_ble_eq_true rfl, Nat.le_of_ble_eq_true rfl⟩) hx hb hml hown hB hK hW hS ⟨Nat.le_of_ble_eq_true rfl, Nat.le_of_ble_eq_true rfl⟩ hl.1 (Nat.le_of_ble_eq_true rfl) dX4_init_60 (fun H locs hW hS => ?_)
  have hW := PB.nm (List.append_assoc L _ _) hW
  have hW : PB E (L ++ ([.inr (4, [rf E (a + 1), rf E (a + 27), rf E (a + 53), .int 0, .int 0, rf E (a + 54), .int 0])] ++ (stC E (a + 1) ++ (stC E (a + 27) ++ ([.inl (eS E, 6, .inr (.inr (.inr (.inr (va_up (fun _ => none) 0 (some (eh E + (a + 55)))))))), ar E 60 (fun _ => 0)] ++ (stC E (a + 55) ++ (stC E (a + 81)))))))) H := hW
  refine p_aast hx hb hK.1 hW hS ha 53 81 rfl (fs := [rf E (a + 81 + 1), rf E (a + 81 + 7), rf E (a + 81 + 17), rf E (a + 81 + 22), rf E (a + 81 + 23), rf E (a + 81 + 24), rf E (a + 81 + 25), .int 0]) rfl (vp_in_nI (n := 1) (by decide) (by decide)) dX4_init_63 (fun H locs hW hS => ?_)
  have hW : PB E (L ++ ([.inr (4, [rf E (a + 1), rf E (a + 27), rf E (a + 53), .int 0, .int 0, rf E (a + 54), .int 0])] ++ (stC E (a + 1) ++ (stC E (a + 27) ++ ([.inl (eS E, 6, .inr (.inr (.inr (.inr (va_up (va_up (fun _ => none) 0 (some (eh E + (a + 55)))) 1 (some (eh E + (a + 81)))))))), ar E 60 (fun _ => 0)] ++ (stC E (a + 55) ++ (stC E (a + 81)))))))) H := hW
  refine lv_iinc (v := 2) (lv' := [(1, .int 2), (0, rf E a)]) hx hb dX4_init_64 hl (k := 0) rfl (by decide) (by decide) rfl (fun ls hl => ?_)
  refine lv_goto (tgt := 45) hx hb dX4_init_67 (by decide) ?_
  refine lv_iload_n hx hb dX4_init_45 rfl (lv_at hl 0 rfl) ?_
  refine lv_bipush (v := 6) hx hb dX4_init_46 (by decide) ?_
  refine lv_icmp_ge (tgt := 70) hx hb dX4_init_48 (by decide) (fun c1 => absurd c1 (by decide)) (fun _ => ?_)
  refine lv_aload_n hx hb dX4_init_51 rfl (lv_at hl 1 rfl) ?_
  refine p_get hx hb hB hK.1 (C := RX4) (T := TX4) (N := 7) (ci := 4) inB_X4 hown hW ha 0 rfl rfl 2 (by decide) rfl q_221 (v := rf E (a + 53)) rfl dX4_init_52 ?_
  refine lv_iload_n hx hb dX4_init_55 rfl (lv_at hl 0 rfl) ?_
  refine p_new hx hb hB hK.1 (C := RX3) (T := TX3) (N := 8) (ci := 3) inB_X3 tyX3 tyX3_ok hown q_83 qm_inX3 qm_irX3 hW hS rfl (fs := [.null, .null, .null, .null, .null, .null, .null, .int 0]) (fun j hj => by rcases (show j = 0 ∨ j = 1 ∨ j = 2 ∨ j = 3 ∨ j = 4 ∨ j = 5 ∨ j = 6 ∨ j = 7 by omega) with rfl | rfl | rfl | rfl | rfl | rfl | rfl | rfl <;> rfl) (Nat.le_of_ble_eq_true rfl) (Nat.le_of_ble_eq_true rfl) (pb_len (j := 107) ha rfl) dX4_init_56 (fun H hW hS => ?_)
  refine lv_dup hx hb dX4_init_59 rfl ?_
  refine c_I (rest := [rf E (a + 107), .int 2, rf E (a + 53)]) (i_X3 l E (L ++ ([.inr (4, [rf E (a + 1), rf E (a + 27), rf E (a + 53), .int 0, .int 0, rf E (a + 54), .int 0])] ++ (stC E (a + 1) ++ (stC E (a + 27) ++ ([.inl (eS E, 6, .inr (.inr (.inr (.inr (va_up (va_up (fun _ => none) 0 (some (eh E + (a + 55)))) 1 (some (eh E + (a + 81)))))))), ar E 60 (fun _ => 0)] ++ (stC E (a + 55) ++ (stC E (a + 81)))))))) (a + 107) (pb_len ha rfl)) (kw_I hB qm_icX3 qm_irX3 q_85 qm_iiX3 rfl (by decide +kernel) ⟨Nat.le_of_ble_eq_true rfl, Nat.le_of_ble_eq_true rfl⟩) hx hb hml hown hB hK hW hS ⟨Nat.le_of_ble_eq_true rfl, Nat.le_of_ble_eq_true rfl⟩ hl.1 (Nat.le_of_ble_eq_true rfl) dX4_init_60 (fun H locs hW hS => ?_)
  have hW := PB.nm (List.append_assoc L _ _) hW
  have hW : PB E (L ++ ([.inr (4, [rf E (a + 1), rf E (a + 27), rf E (a + 53), .int 0, .int 0, rf E (a + 54), .int 0])] ++ (stC E (a + 1) ++ (stC E (a + 27) ++ ([.inl (eS E, 6, .inr (.inr (.inr (.inr (va_up (va_up (fun _ => none) 0 (some (eh E + (a + 55)))) 1 (some (eh E + (a + 81)))))))), ar E 60 (fun _ => 0)] ++ (stC E (a + 55) ++ (stC E (a + 81) ++ (stC E (a + 107))))))))) H := hW
  refine p_aast hx hb hK.1 hW hS ha 53 107 rfl (fs := [rf E (a + 107 + 1), rf E (a + 107 + 7), rf E (a + 107 + 17), rf E (a + 107 + 22), rf E (a + 107 + 23), rf E (a + 107 + 24), rf E (a + 107 + 25), .int 0]) rfl (vp_in_nI (n := 2) (by decide) (by decide)) dX4_init_63 (fun H locs hW hS => ?_)
  have hW : PB E (L ++ ([.inr (4, [rf E (a + 1), rf E (a + 27), rf E (a + 53), .int 0, .int 0, rf E (a + 54), .int 0])] ++ (stC E (a + 1) ++ (stC E (a + 27) ++ ([.inl (eS E, 6, .inr (.inr (.inr (.inr (va_up (va_up (va_up (fun _ => none) 0 (some (eh E + (a + 55)))) 1 (some (eh E + (a + 81)))) 2 (some (eh E + (a + 107)))))))), ar E 60 (fun _ => 0)] ++ (stC E (a + 55) ++ (stC E (a + 81) ++ (stC E (a + 107))))))))) H := hW
  refine lv_iinc (v := 3) (lv' := [(1, .int 3), (0, rf E a)]) hx hb dX4_init_64 hl (k := 0) rfl (by decide) (by decide) rfl (fun ls hl => ?_)
  refine lv_goto (tgt := 45) hx hb dX4_init_67 (by decide) ?_
  refine lv_iload_n hx hb dX4_init_45 rfl (lv_at hl 0 rfl) ?_
  refine lv_bipush (v := 6) hx hb dX4_init_46 (by decide) ?_
  refine lv_icmp_ge (tgt := 70) hx hb dX4_init_48 (by decide) (fun c1 => absurd c1 (by decide)) (fun _ => ?_)
  refine lv_aload_n hx hb dX4_init_51 rfl (lv_at hl 1 rfl) ?_
  refine p_get hx hb hB hK.1 (C := RX4) (T := TX4) (N := 7) (ci := 4) inB_X4 hown hW ha 0 rfl rfl 2 (by decide) rfl q_221 (v := rf E (a + 53)) rfl dX4_init_52 ?_
  refine lv_iload_n hx hb dX4_init_55 rfl (lv_at hl 0 rfl) ?_
  refine p_new hx hb hB hK.1 (C := RX3) (T := TX3) (N := 8) (ci := 3) inB_X3 tyX3 tyX3_ok hown q_83 qm_inX3 qm_irX3 hW hS rfl (fs := [.null, .null, .null, .null, .null, .null, .null, .int 0]) (fun j hj => by rcases (show j = 0 ∨ j = 1 ∨ j = 2 ∨ j = 3 ∨ j = 4 ∨ j = 5 ∨ j = 6 ∨ j = 7 by omega) with rfl | rfl | rfl | rfl | rfl | rfl | rfl | rfl <;> rfl) (Nat.le_of_ble_eq_true rfl) (Nat.le_of_ble_eq_true rfl) (pb_len (j := 133) ha rfl) dX4_init_56 (fun H hW hS => ?_)
  refine lv_dup hx hb dX4_init_59 rfl ?_
  refine c_I (rest := [rf E (a + 133), .int 3, rf E (a + 53)]) (i_X3 l E (L ++ ([.inr (4, [rf E (a + 1), rf E (a + 27), rf E (a + 53), .int 0, .int 0, rf E (a + 54), .int 0])] ++ (stC E (a + 1) ++ (stC E (a + 27) ++ ([.inl (eS E, 6, .inr (.inr (.inr (.inr (va_up (va_up (va_up (fun _ => none) 0 (some (eh E + (a + 55)))) 1 (some (eh E + (a + 81)))) 2 (some (eh E + (a + 107)))))))), ar E 60 (fun _ => 0)] ++ (stC E (a + 55) ++ (stC E (a + 81) ++ (stC E (a + 107))))))))) (a + 133) (pb_len ha rfl)) (kw_I hB qm_icX3 qm_irX3 q_85 qm_iiX3 rfl (by decide +kernel) ⟨Nat.le_of_ble_eq_true rfl, Nat.le_of_ble_eq_true rfl⟩) hx hb hml hown hB hK hW hS ⟨Nat.le_of_ble_eq_true rfl, Nat.le_of_ble_eq_true rfl⟩ hl.1 (Nat.le_of_ble_eq_true rfl) dX4_init_60 (fun H locs hW hS => ?_)
  have hW := PB.nm (List.append_assoc L _ _) hW
  have hW : PB E (L ++ ([.inr (4, [rf E (a + 1), rf E (a + 27), rf E (a + 53), .int 0, .int 0, rf E (a + 54), .int 0])] ++ (stC E (a + 1) ++ (stC E (a + 27) ++ ([.inl (eS E, 6, .inr (.inr (.inr (.inr (va_up (va_up (va_up (fun _ => none) 0 (some (eh E + (a + 55)))) 1 (some (eh E + (a + 81)))) 2 (some (eh E + (a + 107)))))))), ar E 60 (fun _ => 0)] ++ (stC E (a + 55) ++ (stC E (a + 81) ++ (stC E (a + 107) ++ (stC E (a + 133)))))))))) H := hW
  refine p_aast hx hb hK.1 hW hS ha 53 133 rfl (fs := [rf E (a + 133 + 1), rf E (a + 133 + 7), rf E (a + 133 + 17), rf E (a + 133 + 22), rf E (a + 133 + 23), rf E (a + 133 + 24), rf E (a + 133 + 25), .int 0]) rfl (vp_in_nI (n := 3) (by decide) (by decide)) dX4_init_63 (fun H locs hW hS => ?_)
  have hW : PB E (L ++ ([.inr (4, [rf E (a + 1), rf E (a + 27), rf E (a + 53), .int 0, .int 0, rf E (a + 54), .int 0])] ++ (stC E (a + 1) ++ (stC E (a + 27) ++ ([.inl (eS E, 6, .inr (.inr (.inr (.inr (va_up (va_up (va_up (va_up (fun _ => none) 0 (some (eh E + (a + 55)))) 1 (some (eh E + (a + 81)))) 2 (some (eh E + (a + 107)))) 3 (some (eh E + (a + 133)))))))), ar E 60 (fun _ => 0)] ++ (stC E (a + 55) ++ (stC E (a + 81) ++ (stC E (a + 107) ++ (stC E (a + 133)))))))))) H := hW
  refine lv_iinc (v := 4) (lv' := [(1, .int 4), (0, rf E a)]) hx hb dX4_init_64 hl (k := 0) rfl (by decide) (by decide) rfl (fun ls hl => ?_)
  refine lv_goto (tgt := 45) hx hb dX4_init_67 (by decide) ?_
  refine lv_iload_n hx hb dX4_init_45 rfl (lv_at hl 0 rfl) ?_
  refine lv_bipush (v := 6) hx hb dX4_init_46 (by decide) ?_
  refine lv_icmp_ge (tgt := 70) hx hb dX4_init_48 (by decide) (fun c1 => absurd c1 (by decide)) (fun _ => ?_)
  refine lv_aload_n hx hb dX4_init_51 rfl (lv_at hl 1 rfl) ?_
  refine p_get hx hb hB hK.1 (C := RX4) (T := TX4) (N := 7) (ci := 4) inB_X4 hown hW ha 0 rfl rfl 2 (by decide) rfl q_221 (v := rf E (a + 53)) rfl dX4_init_52 ?_
  refine lv_iload_n hx hb dX4_init_55 rfl (lv_at hl 0 rfl) ?_
  refine p_new hx hb hB hK.1 (C := RX3) (T := TX3) (N := 8) (ci := 3) inB_X3 tyX3 tyX3_ok hown q_83 qm_inX3 qm_irX3 hW hS rfl (fs := [.null, .null, .null, .null, .null, .null, .null, .int 0]) (fun j hj => by rcases (show j = 0 ∨ j = 1 ∨ j = 2 ∨ j = 3 ∨ j = 4 ∨ j = 5 ∨ j = 6 ∨ j = 7 by omega) with rfl | rfl | rfl | rfl | rfl | rfl | rfl | rfl <;> rfl) (Nat.le_of_ble_eq_true rfl) (Nat.le_of_ble_eq_true rfl) (pb_len (j := 159) ha rfl) dX4_init_56 (fun H hW hS => ?_)
  refine lv_dup hx hb dX4_init_59 rfl ?_
  refine c_I (rest := [rf E (a + 159), .int 4, rf E (a + 53)]) (i_X3 l E (L ++ ([.inr (4, [rf E (a + 1), rf E (a + 27), rf E (a + 53), .int 0, .int 0, rf E (a + 54), .int 0])] ++ (stC E (a + 1) ++ (stC E (a + 27) ++ ([.inl (eS E, 6, .inr (.inr (.inr (.inr (va_up (va_up (va_up (va_up (fun _ => none) 0 (some (eh E + (a + 55)))) 1 (some (eh E + (a + 81)))) 2 (some (eh E + (a + 107)))) 3 (some (eh E + (a + 133)))))))), ar E 60 (fun _ => 0)] ++ (stC E (a + 55) ++ (stC E (a + 81) ++ (stC E (a + 107) ++ (stC E (a + 133)))))))))) (a + 159) (pb_len ha rfl)) (kw_I hB qm_icX3 qm_irX3 q_85 qm_iiX3 rfl (by decide +kernel) ⟨Nat.le_of_ble_eq_true rfl, Nat.le_of_ble_eq_true rfl⟩) hx hb hml hown hB hK hW hS ⟨Nat.le_of_ble_eq_true rfl, Nat.le_of_ble_eq_true rfl⟩ hl.1 (Nat.le_of_ble_eq_true rfl) dX4_init_60 (fun H locs hW hS => ?_)
  have hW := PB.nm (List.append_assoc L _ _) hW
  have hW : PB E (L ++ ([.inr (4, [rf E (a + 1), rf E (a + 27), rf E (a + 53), .int 0, .int 0, rf E (a + 54), .int 0])] ++ (stC E (a + 1) ++ (stC E (a + 27) ++ ([.inl (eS E, 6, .inr (.inr (.inr (.inr (va_up (va_up (va_up (va_up (fun _ => none) 0 (some (eh E + (a + 55)))) 1 (some (eh E + (a + 81)))) 2 (some (eh E + (a + 107)))) 3 (some (eh E + (a + 133)))))))), ar E 60 (fun _ => 0)] ++ (stC E (a + 55) ++ (stC E (a + 81) ++ (stC E (a + 107) ++ (stC E (a + 133) ++ (stC E (a + 159))))))))))) H := hW
  refine p_aast hx hb hK.1 hW hS ha 53 159 rfl (fs := [rf E (a + 159 + 1), rf E (a + 159 + 7), rf E (a + 159 + 17), rf E (a + 159 + 22), rf E (a + 159 + 23), rf E (a + 159 + 24), rf E (a + 159 + 25), .int 0]) rfl (vp_in_nI (n := 4) (by decide) (by decide)) dX4_init_63 (fun H locs hW hS => ?_)
  have hW : PB E (L ++ ([.inr (4, [rf E (a + 1), rf E (a + 27), rf E (a + 53), .int 0, .int 0, rf E (a + 54), .int 0])] ++ (stC E (a + 1) ++ (stC E (a + 27) ++ ([.inl (eS E, 6, .inr (.inr (.inr (.inr (va_up (va_up (va_up (va_up (va_up (fun _ => none) 0 (some (eh E + (a + 55)))) 1 (some (eh E + (a + 81)))) 2 (some (eh E + (a + 107)))) 3 (some (eh E + (a + 133)))) 4 (some (eh E + (a + 159)))))))), ar E 60 (fun _ => 0)] ++ (stC E (a + 55) ++ (stC E (a + 81) ++ (stC E (a + 107) ++ (stC E (a + 133) ++ (stC E (a + 159))))))))))) H := hW
  refine lv_iinc (v := 5) (lv' := [(1, .int 5), (0, rf E a)]) hx hb dX4_init_64 hl (k := 0) rfl (by decide) (by decide) rfl (fun ls hl => ?_)
  refine lv_goto (tgt := 45) hx hb dX4_init_67 (by decide) ?_
  refine lv_iload_n hx hb dX4_init_45 rfl (lv_at hl 0 rfl) ?_
  refine lv_bipush (v := 6) hx hb dX4_init_46 (by decide) ?_
  refine lv_icmp_ge (tgt := 70) hx hb dX4_init_48 (by decide) (fun c1 => absurd c1 (by decide)) (fun _ => ?_)
  refine lv_aload_n hx hb dX4_init_51 rfl (lv_at hl 1 rfl) ?_
  refine p_get hx hb hB hK.1 (C := RX4) (T := TX4) (N := 7) (ci := 4) inB_X4 hown hW ha 0 rfl rfl 2 (by decide) rfl q_221 (v := rf E (a + 53)) rfl dX4_init_52 ?_
  refine lv_iload_n hx hb dX4_init_55 rfl (lv_at hl 0 rfl) ?_
  refine p_new hx hb hB hK.1 (C := RX3) (T := TX3) (N := 8) (ci := 3) inB_X3 tyX3 tyX3_ok hown q_83 qm_inX3 qm_irX3 hW hS rfl (fs := [.null, .null, .null, .null, .null, .null, .null, .int 0]) (fun j hj => by rcases (show j = 0 ∨ j = 1 ∨ j = 2 ∨ j = 3 ∨ j = 4 ∨ j = 5 ∨ j = 6 ∨ j = 7 by omega) with rfl | rfl | rfl | rfl | rfl | rfl | rfl | rfl <;> rfl) (Nat.le_of_ble_eq_true rfl) (Nat.le_of_ble_eq_true rfl) (pb_len (j := 185) ha rfl) dX4_init_56 (fun H hW hS => ?_)
  refine lv_dup hx hb dX4_init_59 rfl ?_
  refine c_I (rest := [rf E (a + 185), .int 5, rf E (a + 53)]) (i_X3 l E (L ++ ([.inr (4, [rf E (a + 1), rf E (a + 27), rf E (a + 53), .int 0, .int 0, rf E (a + 54), .int 0])] ++ (stC E (a + 1) ++ (stC E (a + 27) ++ ([.inl (eS E, 6, .inr (.inr (.inr (.inr (va_up (va_up (va_up (va_up (va_up (fun _ => none) 0 (some (eh E + (a + 55)))) 1 (some (eh E + (a + 81)))) 2 (some (eh E + (a + 107)))) 3 (some (eh E + (a + 133)))) 4 (some (eh E + (a + 159)))))))), ar E 60 (fun _ => 0)] ++ (stC E (a + 55) ++ (stC E (a + 81) ++ (stC E (a + 107) ++ (stC E (a + 133) ++ (stC E (a + 159))))))))))) (a + 185) (pb_len ha rfl)) (kw_I hB qm_icX3 qm_irX3 q_85 qm_iiX3 rfl (by decide +kernel) ⟨Nat.le_of_ble_eq_true rfl, Nat.le_of_ble_eq_true rfl⟩) hx hb hml hown hB hK hW hS ⟨Nat.le_of_ble_eq_true rfl, Nat.le_of_ble_eq_true rfl⟩ hl.1 (Nat.le_of_ble_eq_true rfl) dX4_init_60 (fun H locs hW hS => ?_)
  have hW := PB.nm (List.append_assoc L _ _) hW
  have hW : PB E (L ++ ([.inr (4, [rf E (a + 1), rf E (a + 27), rf E (a + 53), .int 0, .int 0, rf E (a + 54), .int 0])] ++ (stC E (a + 1) ++ (stC E (a + 27) ++ ([.inl (eS E, 6, .inr (.inr (.inr (.inr (va_up (va_up (va_up (va_up (va_up (fun _ => none) 0 (some (eh E + (a + 55)))) 1 (some (eh E + (a + 81)))) 2 (some (eh E + (a + 107)))) 3 (some (eh E + (a + 133)))) 4 (some (eh E + (a + 159)))))))), ar E 60 (fun _ => 0)] ++ (stC E (a + 55) ++ (stC E (a + 81) ++ (stC E (a + 107) ++ (stC E (a + 133) ++ (stC E (a + 159) ++ (stC E (a + 185)))))))))))) H := hW
  refine p_aast hx hb hK.1 hW hS ha 53 185 rfl (fs := [rf E (a + 185 + 1), rf E (a + 185 + 7), rf E (a + 185 + 17), rf E (a + 185 + 22), rf E (a + 185 + 23), rf E (a + 185 + 24), rf E (a + 185 + 25), .int 0]) rfl (vp_in_nI (n := 5) (by decide) (by decide)) dX4_init_63 (fun H locs hW hS => ?_)
  have hW : PB E (L ++ ([.inr (4, [rf E (a + 1), rf E (a + 27), rf E (a + 53), .int 0, .int 0, rf E (a + 54), .int 0])] ++ (stC E (a + 1) ++ (stC E (a + 27) ++ ([.inl (eS E, 6, .inr (.inr (.inr (.inr (va_up (va_up (va_up (va_up (va_up (va_up (fun _ => none) 0 (some (eh E + (a + 55)))) 1 (some (eh E + (a + 81)))) 2 (some (eh E + (a + 107)))) 3 (some (eh E + (a + 133)))) 4 (some (eh E + (a + 159)))) 5 (some (eh E + (a + 185)))))))), ar E 60 (fun _ => 0)] ++ (stC E (a + 55) ++ (stC E (a + 81) ++ (stC E (a + 107) ++ (stC E (a + 133) ++ (stC E (a + 159) ++ (stC E (a + 185)))))))))))) H := hW
  refine lv_iinc (v := 6) (lv' := [(1, .int 6), (0, rf E a)]) hx hb dX4_init_64 hl (k := 0) rfl (by decide) (by decide) rfl (fun ls hl => ?_)
  refine lv_goto (tgt := 45) hx hb dX4_init_67 (by decide) ?_
  refine lv_iload_n hx hb dX4_init_45 rfl (lv_at hl 0 rfl) ?_
  refine lv_bipush (v := 6) hx hb dX4_init_46 (by decide) ?_
  refine lv_icmp_ge (tgt := 70) hx hb dX4_init_48 (by decide) (fun _ => ?_) (fun c1 => absurd (by decide) c1)
  exact e_c hx hb hr hlk hW hS dX4_init_70
def finX5 (E : TE) (a : Nat) : List va_E := [.inr (5, [rf E (a + 1), rf E (a + 2), rf E (a + 3), .int 0, rf E (a + 4), .int 0, .int 0, .int 0, .int 0, .int 0, rf E (a + 5), .long 0]), ar E 442 (upd (upd (upd (upd (upd (upd (upd (upd (upd (upd (upd (upd (upd (upd (upd (upd (upd (upd (upd (upd (upd (upd (upd (fun _ => 0) 2 2) 3 1) 4 50) 6 500) 7 500) 34 500) 35 500) 62 500) 63 500) 90 500) 91 500) 118 (-1)) 119 (-1)) 120 (-1)) 121 (-1)) 122 (-1)) 123 (-1)) 124 (-1)) 125 (-1)) 126 (-1)) 127 (-1)) 128 (-1)) 129 (-1)), ar E 2652 (fun _ => 0), ar E 442 (fun _ => 0), ar E 60 (fun _ => 0), ar E 45 (fun _ => 0)]
theorem dX5_init_0 : decode cX5_init 0 = .ok (.aload_n 0, 1) := by decide +kernel
theorem dX5_init_1 : decode cX5_init 1 = .ok (.invokespecial 1, 3) := by decide +kernel
theorem dX5_init_4 : decode cX5_init 4 = .ok (.aload_n 0, 1) := by decide +kernel
theorem dX5_init_5 : decode cX5_init 5 = .ok (.sipush 442, 3) := by decide +kernel
theorem dX5_init_8 : decode cX5_init 8 = .ok (.newarray .int, 2) := by decide +kernel
theorem dX5_init_10 : decode cX5_init 10 = .ok (.putfield 7, 3) := by decide +kernel
theorem dX5_init_13 : decode cX5_init 13 = .ok (.aload_n 0, 1) := by decide +kernel
theorem dX5_init_14 : decode cX5_init 14 = .ok (.sipush 2652, 3) := by decide +kernel
theorem dX5_init_17 : decode cX5_init 17 = .ok (.newarray .int, 2) := by decide +kernel
theorem dX5_init_19 : decode cX5_init 19 = .ok (.putfield 13, 3) := by decide +kernel
theorem dX5_init_22 : decode cX5_init 22 = .ok (.aload_n 0, 1) := by decide +kernel
theorem dX5_init_23 : decode cX5_init 23 = .ok (.sipush 442, 3) := by decide +kernel
theorem dX5_init_26 : decode cX5_init 26 = .ok (.newarray .int, 2) := by decide +kernel
theorem dX5_init_28 : decode cX5_init 28 = .ok (.putfield 16, 3) := by decide +kernel
theorem dX5_init_31 : decode cX5_init 31 = .ok (.aload_n 0, 1) := by decide +kernel
theorem dX5_init_32 : decode cX5_init 32 = .ok (.bipush 60, 2) := by decide +kernel
theorem dX5_init_34 : decode cX5_init 34 = .ok (.newarray .int, 2) := by decide +kernel
theorem dX5_init_36 : decode cX5_init 36 = .ok (.putfield 19, 3) := by decide +kernel
theorem dX5_init_39 : decode cX5_init 39 = .ok (.aload_n 0, 1) := by decide +kernel
theorem dX5_init_40 : decode cX5_init 40 = .ok (.bipush 45, 2) := by decide +kernel
theorem dX5_init_42 : decode cX5_init 42 = .ok (.newarray .int, 2) := by decide +kernel
theorem dX5_init_44 : decode cX5_init 44 = .ok (.putfield 22, 3) := by decide +kernel
theorem dX5_init_47 : decode cX5_init 47 = .ok (.aload_n 0, 1) := by decide +kernel
theorem dX5_init_48 : decode cX5_init 48 = .ok (.getfield 7, 3) := by decide +kernel
theorem dX5_init_51 : decode cX5_init 51 = .ok (.iconst 2, 1) := by decide +kernel
theorem dX5_init_52 : decode cX5_init 52 = .ok (.iconst 2, 1) := by decide +kernel
theorem dX5_init_53 : decode cX5_init 53 = .ok (.iastore, 1) := by decide +kernel
theorem dX5_init_54 : decode cX5_init 54 = .ok (.aload_n 0, 1) := by decide +kernel
theorem dX5_init_55 : decode cX5_init 55 = .ok (.getfield 7, 3) := by decide +kernel
theorem dX5_init_58 : decode cX5_init 58 = .ok (.iconst 3, 1) := by decide +kernel
theorem dX5_init_59 : decode cX5_init 59 = .ok (.iconst 1, 1) := by decide +kernel
theorem dX5_init_60 : decode cX5_init 60 = .ok (.iastore, 1) := by decide +kernel
theorem dX5_init_61 : decode cX5_init 61 = .ok (.aload_n 0, 1) := by decide +kernel
theorem dX5_init_62 : decode cX5_init 62 = .ok (.getfield 7, 3) := by decide +kernel
theorem dX5_init_65 : decode cX5_init 65 = .ok (.iconst 4, 1) := by decide +kernel
theorem dX5_init_66 : decode cX5_init 66 = .ok (.bipush 50, 2) := by decide +kernel
theorem dX5_init_68 : decode cX5_init 68 = .ok (.iastore, 1) := by decide +kernel
theorem dX5_init_69 : decode cX5_init 69 = .ok (.iconst 0, 1) := by decide +kernel
theorem dX5_init_70 : decode cX5_init 70 = .ok (.istore_n 1, 1) := by decide +kernel
theorem dX5_init_71 : decode cX5_init 71 = .ok (.iload_n 1, 1) := by decide +kernel
theorem dX5_init_72 : decode cX5_init 72 = .ok (.iconst 4, 1) := by decide +kernel
theorem dX5_init_73 : decode cX5_init 73 = .ok (.if_icmp .ge 35, 3) := by decide +kernel
theorem dX5_init_76 : decode cX5_init 76 = .ok (.aload_n 0, 1) := by decide +kernel
theorem dX5_init_77 : decode cX5_init 77 = .ok (.getfield 7, 3) := by decide +kernel
theorem dX5_init_80 : decode cX5_init 80 = .ok (.iload_n 1, 1) := by decide +kernel
theorem dX5_init_81 : decode cX5_init 81 = .ok (.invokestatic 25, 3) := by decide +kernel
theorem dX5_init_84 : decode cX5_init 84 = .ok (.sipush 500, 3) := by decide +kernel
theorem dX5_init_87 : decode cX5_init 87 = .ok (.iastore, 1) := by decide +kernel
theorem dX5_init_88 : decode cX5_init 88 = .ok (.aload_n 0, 1) := by decide +kernel
theorem dX5_init_89 : decode cX5_init 89 = .ok (.getfield 7, 3) := by decide +kernel
theorem dX5_init_92 : decode cX5_init 92 = .ok (.iload_n 1, 1) := by decide +kernel
theorem dX5_init_93 : decode cX5_init 93 = .ok (.invokestatic 25, 3) := by decide +kernel
theorem dX5_init_96 : decode cX5_init 96 = .ok (.iconst 1, 1) := by decide +kernel
theorem dX5_init_97 : decode cX5_init 97 = .ok (.iadd, 1) := by decide +kernel
theorem dX5_init_98 : decode cX5_init 98 = .ok (.sipush 500, 3) := by decide +kernel
theorem dX5_init_101 : decode cX5_init 101 = .ok (.iastore, 1) := by decide +kernel
theorem dX5_init_102 : decode cX5_init 102 = .ok (.iinc 1 1, 3) := by decide +kernel
theorem dX5_init_105 : decode cX5_init 105 = .ok (.goto (-34), 3) := by decide +kernel
theorem dX5_init_108 : decode cX5_init 108 = .ok (.iconst 0, 1) := by decide +kernel
theorem dX5_init_109 : decode cX5_init 109 = .ok (.istore_n 1, 1) := by decide +kernel
theorem dX5_init_110 : decode cX5_init 110 = .ok (.iload_n 1, 1) := by decide +kernel
theorem dX5_init_111 : decode cX5_init 111 = .ok (.bipush 12, 2) := by decide +kernel
theorem dX5_init_113 : decode cX5_init 113 = .ok (.if_icmp .ge 19, 3) := by decide +kernel
theorem dX5_init_116 : decode cX5_init 116 = .ok (.aload_n 0, 1) := by decide +kernel
theorem dX5_init_117 : decode cX5_init 117 = .ok (.getfield 7, 3) := by decide +kernel
theorem dX5_init_120 : decode cX5_init 120 = .ok (.bipush 118, 2) := by decide +kernel
theorem dX5_init_122 : decode cX5_init 122 = .ok (.iload_n 1, 1) := by decide +kernel
theorem dX5_init_123 : decode cX5_init 123 = .ok (.iadd, 1) := by decide +kernel
theorem dX5_init_124 : decode cX5_init 124 = .ok (.iconst (-1), 1) := by decide +kernel
theorem dX5_init_125 : decode cX5_init 125 = .ok (.iastore, 1) := by decide +kernel
theorem dX5_init_126 : decode cX5_init 126 = .ok (.iinc 1 1, 3) := by decide +kernel
theorem dX5_init_129 : decode cX5_init 129 = .ok (.goto (-19), 3) := by decide +kernel
theorem dX5_init_132 : decode cX5_init 132 = .ok (.return_, 1) := by decide +kernel
set_option maxRecDepth 100000 in
set_option maxHeartbeats 4000000 in
theorem i_X5 (l : Launch) (E : TE) (L : List va_E) (a : Nat) (ha : L.length = a) : MC l E yX5_init cX5_init 2 1 5 3641 [rf E a] (PB E (L ++ [.inr (5, [.null, .null, .null, .int 0, .null, .int 0, .int 0, .int 0, .int 0, .int 0, .null, .long 0])])) (PB E (L ++ (finX5 E a))) := by
  refine mk_in (by decide) (Nat.le_of_ble_eq_true rfl) ?_
  intro p e s mi args below meth c H ls hx hb hr hlk hml hown hin2 hB hK hW hS hl
  have hl : lv_has ls 2 [(0, rf E a)] := hl
  refine lv_aload_n hx hb dX5_init_0 rfl (lv_at hl 0 rfl) ?_
  refine W.objInit hx hb hown (hB _ qm_olX5) (hB _ qm_oiI) (hB _ qm_oiC) rfl (hl.1.trans hml.symm) rfl dX5_init_1 (Nat.le_of_ble_eq_true rfl) (Nat.le_of_ble_eq_true rfl) ?_
  show W p l e _ s mi args below meth c H [] 0 0 _ (F0 mi 4 ls [])
  refine lv_aload_n hx hb dX5_init_4 rfl (lv_at hl 0 rfl) ?_
  refine lv_sipush (v := 442) hx hb dX5_init_5 (by decide) ?_
  refine p_newi hx hb hB hK.1 hW hS (N := 442) (j := 1) (by decide) (by decide) (Nat.le_of_ble_eq_true rfl) (Nat.le_of_ble_eq_true rfl) (Nat.le_of_ble_eq_true rfl) ha rfl dX5_init_8 (fun H hW hS => ?_)
  have hW : PB E (L ++ ([.inr (5, [.null, .null, .null, .int 0, .null, .int 0, .int 0, .int 0, .int 0, .int 0, .null, .long 0]), ar E 442 (fun _ => 0)])) H := hW
  refine p_putF hx hb hB hK.1 (C := RX5) (T := TX5) (N := 12) (ci := 5) inB_X5 tyX5 tyX5_ok nmX5 hown hW hS ha 0 rfl rfl 0 (by decide) rfl rfl hin2 q_915 (ty := (.array .int)) rfl rfl rfl (Nat.le_of_ble_eq_true rfl) dX5_init_10 (fun H locs hW hS => ?_)
  have hW : PB E (L ++ ([.inr (5, [rf E (a + 1), .null, .null, .int 0, .null, .int 0, .int 0, .int 0, .int 0, .int 0, .null, .long 0]), ar E 442 (fun _ => 0)])) H := hW
  refine lv_aload_n hx hb dX5_init_13 rfl (lv_at hl 0 rfl) ?_
  refine lv_sipush (v := 2652) hx hb dX5_init_14 (by decide) ?_
  refine p_newi hx hb hB hK.1 hW hS (N := 2652) (j := 2) (by decide) (by decide) (Nat.le_of_ble_eq_true rfl) (Nat.le_of_ble_eq_true rfl) (Nat.le_of_ble_eq_true rfl) ha rfl dX5_init_17 (fun H hW hS => ?_)
  have hW : PB E (L ++ ([.inr (5, [rf E (a + 1), .null, .null, .int 0, .null, .int 0, .int 0, .int 0, .int 0, .int 0, .null, .long 0]), ar E 442 (fun _ => 0), ar E 2652 (fun _ => 0)])) H := hW
  refine p_putF hx hb hB hK.1 (C := RX5) (T := TX5) (N := 12) (ci := 5) inB_X5 tyX5 tyX5_ok nmX5 hown hW hS ha 0 rfl rfl 1 (by decide) rfl rfl hin2 q_916 (ty := (.array .int)) rfl rfl rfl (Nat.le_of_ble_eq_true rfl) dX5_init_19 (fun H locs hW hS => ?_)
  have hW : PB E (L ++ ([.inr (5, [rf E (a + 1), rf E (a + 2), .null, .int 0, .null, .int 0, .int 0, .int 0, .int 0, .int 0, .null, .long 0]), ar E 442 (fun _ => 0), ar E 2652 (fun _ => 0)])) H := hW
  refine lv_aload_n hx hb dX5_init_22 rfl (lv_at hl 0 rfl) ?_
  refine lv_sipush (v := 442) hx hb dX5_init_23 (by decide) ?_
  refine p_newi hx hb hB hK.1 hW hS (N := 442) (j := 3) (by decide) (by decide) (Nat.le_of_ble_eq_true rfl) (Nat.le_of_ble_eq_true rfl) (Nat.le_of_ble_eq_true rfl) ha rfl dX5_init_26 (fun H hW hS => ?_)
  have hW : PB E (L ++ ([.inr (5, [rf E (a + 1), rf E (a + 2), .null, .int 0, .null, .int 0, .int 0, .int 0, .int 0, .int 0, .null, .long 0]), ar E 442 (fun _ => 0), ar E 2652 (fun _ => 0), ar E 442 (fun _ => 0)])) H := hW
  refine p_putF hx hb hB hK.1 (C := RX5) (T := TX5) (N := 12) (ci := 5) inB_X5 tyX5 tyX5_ok nmX5 hown hW hS ha 0 rfl rfl 2 (by decide) rfl rfl hin2 q_917 (ty := (.array .int)) rfl rfl rfl (Nat.le_of_ble_eq_true rfl) dX5_init_28 (fun H locs hW hS => ?_)
  have hW : PB E (L ++ ([.inr (5, [rf E (a + 1), rf E (a + 2), rf E (a + 3), .int 0, .null, .int 0, .int 0, .int 0, .int 0, .int 0, .null, .long 0]), ar E 442 (fun _ => 0), ar E 2652 (fun _ => 0), ar E 442 (fun _ => 0)])) H := hW
  refine lv_aload_n hx hb dX5_init_31 rfl (lv_at hl 0 rfl) ?_
  refine lv_bipush (v := 60) hx hb dX5_init_32 (by decide) ?_
  refine p_newi hx hb hB hK.1 hW hS (N := 60) (j := 4) (by decide) (by decide) (Nat.le_of_ble_eq_true rfl) (Nat.le_of_ble_eq_true rfl) (Nat.le_of_ble_eq_true rfl) ha rfl dX5_init_34 (fun H hW hS => ?_)
  have hW : PB E (L ++ ([.inr (5, [rf E (a + 1), rf E (a + 2), rf E (a + 3), .int 0, .null, .int 0, .int 0, .int 0, .int 0, .int 0, .null, .long 0]), ar E 442 (fun _ => 0), ar E 2652 (fun _ => 0), ar E 442 (fun _ => 0), ar E 60 (fun _ => 0)])) H := hW
  refine p_putF hx hb hB hK.1 (C := RX5) (T := TX5) (N := 12) (ci := 5) inB_X5 tyX5 tyX5_ok nmX5 hown hW hS ha 0 rfl rfl 4 (by decide) rfl rfl hin2 q_919 (ty := (.array .int)) rfl rfl rfl (Nat.le_of_ble_eq_true rfl) dX5_init_36 (fun H locs hW hS => ?_)
  have hW : PB E (L ++ ([.inr (5, [rf E (a + 1), rf E (a + 2), rf E (a + 3), .int 0, rf E (a + 4), .int 0, .int 0, .int 0, .int 0, .int 0, .null, .long 0]), ar E 442 (fun _ => 0), ar E 2652 (fun _ => 0), ar E 442 (fun _ => 0), ar E 60 (fun _ => 0)])) H := hW
  refine lv_aload_n hx hb dX5_init_39 rfl (lv_at hl 0 rfl) ?_
  refine lv_bipush (v := 45) hx hb dX5_init_40 (by decide) ?_
  refine p_newi hx hb hB hK.1 hW hS (N := 45) (j := 5) (by decide) (by decide) (Nat.le_of_ble_eq_true rfl) (Nat.le_of_ble_eq_true rfl) (Nat.le_of_ble_eq_true rfl) ha rfl dX5_init_42 (fun H hW hS => ?_)
  have hW : PB E (L ++ ([.inr (5, [rf E (a + 1), rf E (a + 2), rf E (a + 3), .int 0, rf E (a + 4), .int 0, .int 0, .int 0, .int 0, .int 0, .null, .long 0]), ar E 442 (fun _ => 0), ar E 2652 (fun _ => 0), ar E 442 (fun _ => 0), ar E 60 (fun _ => 0), ar E 45 (fun _ => 0)])) H := hW
  refine p_putF hx hb hB hK.1 (C := RX5) (T := TX5) (N := 12) (ci := 5) inB_X5 tyX5 tyX5_ok nmX5 hown hW hS ha 0 rfl rfl 10 (by decide) rfl rfl hin2 q_925 (ty := (.array .int)) rfl rfl rfl (Nat.le_of_ble_eq_true rfl) dX5_init_44 (fun H locs hW hS => ?_)
  have hW : PB E (L ++ ([.inr (5, [rf E (a + 1), rf E (a + 2), rf E (a + 3), .int 0, rf E (a + 4), .int 0, .int 0, .int 0, .int 0, .int 0, rf E (a + 5), .long 0]), ar E 442 (fun _ => 0), ar E 2652 (fun _ => 0), ar E 442 (fun _ => 0), ar E 60 (fun _ => 0), ar E 45 (fun _ => 0)])) H := hW
  refine lv_aload_n hx hb dX5_init_47 rfl (lv_at hl 0 rfl) ?_
  refine p_get hx hb hB hK.1 (C := RX5) (T := TX5) (N := 12) (ci := 5) inB_X5 hown hW ha 0 rfl rfl 0 (by decide) rfl q_915 (v := rf E (a + 1)) rfl dX5_init_48 ?_
  refine lv_iconst (v := 2) hx hb dX5_init_51 (by decide) ?_
  refine lv_iconst (v := 2) hx hb dX5_init_52 (by decide) ?_
  refine p_iast hx hb hK.1 hW hS ha 1 rfl (k := 2) (by decide) (vp_in_nI (n := 2) (by decide) (by decide)) dX5_init_53 (fun H locs hW hS => ?_)
  have hW : PB E (L ++ ([.inr (5, [rf E (a + 1), rf E (a + 2), rf E (a + 3), .int 0, rf E (a + 4), .int 0, .int 0, .int 0, .int 0, .int 0, rf E (a + 5), .long 0]), ar E 442 (upd (fun _ => 0) 2 2), ar E 2652 (fun _ => 0), ar E 442 (fun _ => 0), ar E 60 (fun _ => 0), ar E 45 (fun _ => 0)])) H := hW
  refine lv_aload_n hx hb dX5_init_54 rfl (lv_at hl 0 rfl) ?_
  refine p_get hx hb hB hK.1 (C := RX5) (T := TX5) (N := 12) (ci := 5) inB_X5 hown hW ha 0 rfl rfl 0 (by decide) rfl q_915 (v := rf E (a + 1)) rfl dX5_init_55 ?_
  refine lv_iconst (v := 3) hx hb dX5_init_58 (by decide) ?_
  refine lv_iconst (v := 1) hx hb dX5_init_59 (by decide) ?_
  refine p_iast hx hb hK.1 hW hS ha 1 rfl (k := 3) (by decide) (vp_in_nI (n := 3) (by decide) (by decide)) dX5_init_60 (fun H locs hW hS => ?_)
  have hW : PB E (L ++ ([.inr (5, [rf E (a + 1), rf E (a + 2), rf E (a + 3), .int 0, rf E (a + 4), .int 0, .int 0, .int 0, .int 0, .int 0, rf E (a + 5), .long 0]), ar E 442 (upd (upd (fun _ => 0) 2 2) 3 1), ar E 2652 (fun _ => 0), ar E 442 (fun _ => 0), ar E 60 (fun _ => 0), ar E 45 (fun _ => 0)])) H := hW
  refine lv_aload_n hx hb dX5_init_61 rfl (lv_at hl 0 rfl) ?_
  refine p_get hx hb hB hK.1 (C := RX5) (T := TX5) (N := 12) (ci := 5) inB_X5 hown hW ha 0 rfl rfl 0 (by decide) rfl q_915 (v := rf E (a + 1)) rfl dX5_init_62 ?_
  refine lv_iconst (v := 4) hx hb dX5_init_65 (by decide) ?_
  refine lv_bipush (v := 50) hx hb dX5_init_66 (by decide) ?_
  refine p_iast hx hb hK.1 hW hS ha 1 rfl (k := 4) (by decide) (vp_in_nI (n := 4) (by decide) (by decide)) dX5_init_68 (fun H locs hW hS => ?_)
  have hW : PB E (L ++ ([.inr (5, [rf E (a + 1), rf E (a + 2), rf E (a + 3), .int 0, rf E (a + 4), .int 0, .int 0, .int 0, .int 0, .int 0, rf E (a + 5), .long 0]), ar E 442 (upd (upd (upd (fun _ => 0) 2 2) 3 1) 4 50), ar E 2652 (fun _ => 0), ar E 442 (fun _ => 0), ar E 60 (fun _ => 0), ar E 45 (fun _ => 0)])) H := hW
  refine lv_iconst (v := 0) hx hb dX5_init_69 (by decide) ?_
  refine lv_istore_n (lv' := [(1, .int 0), (0, rf E a)]) hx hb dX5_init_70 rfl hl (by decide) rfl (fun ls hl => ?_)
  refine lv_iload_n hx hb dX5_init_71 rfl (lv_at hl 0 rfl) ?_
  refine lv_iconst (v := 4) hx hb dX5_init_72 (by decide) ?_
  refine lv_icmp_ge (tgt := 108) hx hb dX5_init_73 (by decide) (fun c1 => absurd c1 (by decide)) (fun _ => ?_)
  refine lv_aload_n hx hb dX5_init_76 rfl (lv_at hl 1 rfl) ?_
  refine p_get hx hb hB hK.1 (C := RX5) (T := TX5) (N := 12) (ci := 5) inB_X5 hown hW ha 0 rfl rfl 0 (by decide) rfl q_915 (v := rf E (a + 1)) rfl dX5_init_77 ?_
  refine lv_iload_n hx hb dX5_init_80 rfl (lv_at hl 0 rfl) ?_
  refine c_S (As := [.int 0]) (st1 := .int 6 :: [rf E (a + 1)]) (rest := [rf E (a + 1)]) (m_at l E (r := 6) (by decide)) (kc_X5_25 hB ⟨Nat.le_of_ble_eq_true rfl, Nat.le_of_ble_eq_true rfl⟩) hx hb hml hown hB hK.1 hW hS ⟨Nat.le_of_ble_eq_true rfl, Nat.le_of_ble_eq_true rfl⟩ rfl hl.1 rfl (Nat.le_of_ble_eq_true rfl) rfl dX5_init_81 (fun H locs hW hS => ?_)
  refine lv_sipush (v := 500) hx hb dX5_init_84 (by decide) ?_
  refine p_iast hx hb hK.1 hW hS ha 1 rfl (k := 6) (by decide) (vp_in_nI (n := 6) (by decide) (by decide)) dX5_init_87 (fun H locs hW hS => ?_)
  have hW : PB E (L ++ ([.inr (5, [rf E (a + 1), rf E (a + 2), rf E (a + 3), .int 0, rf E (a + 4), .int 0, .int 0, .int 0, .int 0, .int 0, rf E (a + 5), .long 0]), ar E 442 (upd (upd (upd (upd (fun _ => 0) 2 2) 3 1) 4 50) 6 500), ar E 2652 (fun _ => 0), ar E 442 (fun _ => 0), ar E 60 (fun _ => 0), ar E 45 (fun _ => 0)])) H := hW
  refine lv_aload_n hx hb dX5_init_88 rfl (lv_at hl 1 rfl) ?_
  refine p_get hx hb hB hK.1 (C := RX5) (T := TX5) (N := 12) (ci := 5) inB_X5 hown hW ha 0 rfl rfl 0 (by decide) rfl q_915 (v := rf E (a + 1)) rfl dX5_init_89 ?_
  refine lv_iload_n hx hb dX5_init_92 rfl (lv_at hl 0 rfl) ?_
  refine c_S (As := [.int 0]) (st1 := .int 6 :: [rf E (a + 1)]) (rest := [rf E (a + 1)]) (m_at l E (r := 6) (by decide)) (kc_X5_25 hB ⟨Nat.le_of_ble_eq_true rfl, Nat.le_of_ble_eq_true rfl⟩) hx hb hml hown hB hK.1 hW hS ⟨Nat.le_of_ble_eq_true rfl, Nat.le_of_ble_eq_true rfl⟩ rfl hl.1 rfl (Nat.le_of_ble_eq_true rfl) rfl dX5_init_93 (fun H locs hW hS => ?_)
  refine lv_iconst (v := 1) hx hb dX5_init_96 (by decide) ?_
  refine lv_iadd hx hb dX5_init_97 ?_
  rw [show ((6 : Int32) + 1) = 7 from by decide]
  refine lv_sipush (v := 500) hx hb dX5_init_98 (by decide) ?_
  refine p_iast hx hb hK.1 hW hS ha 1 rfl (k := 7) (by decide) (vp_in_nI (n := 7) (by decide) (by decide)) dX5_init_101 (fun H locs hW hS => ?_)
  have hW : PB E (L ++ ([.inr (5, [rf E (a + 1), rf E (a + 2), rf E (a + 3), .int 0, rf E (a + 4), .int 0, .int 0, .int 0, .int 0, .int 0, rf E (a + 5), .long 0]), ar E 442 (upd (upd (upd (upd (upd (fun _ => 0) 2 2) 3 1) 4 50) 6 500) 7 500), ar E 2652 (fun _ => 0), ar E 442 (fun _ => 0), ar E 60 (fun _ => 0), ar E 45 (fun _ => 0)])) H := hW
  refine lv_iinc (v := 1) (lv' := [(1, .int 1), (0, rf E a)]) hx hb dX5_init_102 hl (k := 0) rfl (by decide) (by decide) rfl (fun ls hl => ?_)
  refine lv_goto (tgt := 71) hx hb dX5_init_105 (by decide) ?_
  refine lv_iload_n hx hb dX5_init_71 rfl (lv_at hl 0 rfl) ?_
  refine lv_iconst (v := 4) hx hb dX5_init_72 (by decide) ?_
  refine lv_icmp_ge (tgt := 108) hx hb dX5_init_73 (by decide) (fun c1 => absurd c1 (by decide)) (fun _ => ?_)
  refine lv_aload_n hx hb dX5_init_76 rfl (lv_at hl 1 rfl) ?_
  refine p_get hx hb hB hK.1 (C := RX5) (T := TX5) (N := 12) (ci := 5) inB_X5 hown hW ha 0 rfl rfl 0 (by decide) rfl q_915 (v := rf E (a + 1)) rfl dX5_init_77 ?_
  refine lv_iload_n hx hb dX5_init_80 rfl (lv_at hl 0 rfl) ?_
  refine c_S (As := [.int 1]) (st1 := .int 34 :: [rf E (a + 1)]) (rest := [rf E (a + 1)]) (m_at l E (r := 34) (by decide)) (kc_X5_25 hB ⟨Nat.le_of_ble_eq_true rfl, Nat.le_of_ble_eq_true rfl⟩) hx hb hml hown hB hK.1 hW hS ⟨Nat.le_of_ble_eq_true rfl, Nat.le_of_ble_eq_true rfl⟩ rfl hl.1 rfl (Nat.le_of_ble_eq_true rfl) rfl dX5_init_81 (fun H locs hW hS => ?_)
  refine lv_sipush (v := 500) hx hb dX5_init_84 (by decide) ?_
  refine p_iast hx hb hK.1 hW hS ha 1 rfl (k := 34) (by decide) (vp_in_nI (n := 34) (by decide) (by decide)) dX5_init_87 (fun H locs hW hS => ?_)
  have hW : PB E (L ++ ([.inr (5, [rf E (a + 1), rf E (a + 2), rf E (a + 3), .int 0, rf E (a + 4), .int 0, .int 0, .int 0, .int 0, .int 0, rf E (a + 5), .long 0]), ar E 442 (upd (upd (upd (upd (upd (upd (fun _ => 0) 2 2) 3 1) 4 50) 6 500) 7 500) 34 500), ar E 2652 (fun _ => 0), ar E 442 (fun _ => 0), ar E 60 (fun _ => 0), ar E 45 (fun _ => 0)])) H := hW
  refine lv_aload_n hx hb dX5_init_88 rfl (lv_at hl 1 rfl) ?_
  refine p_get hx hb hB hK.1 (C := RX5) (T := TX5) (N := 12) (ci := 5) inB_X5 hown hW ha 0 rfl rfl 0 (by decide) rfl q_915 (v := rf E (a + 1)) rfl dX5_init_89 ?_
  refine lv_iload_n hx hb dX5_init_92 rfl (lv_at hl 0 rfl) ?_
  refine c_S (As := [.int 1]) (st1 := .int 34 :: [rf E (a + 1)]) (rest := [rf E (a + 1)]) (m_at l E (r := 34) (by decide)) (kc_X5_25 hB ⟨Nat.le_of_ble_eq_true rfl, Nat.le_of_ble_eq_true rfl⟩) hx hb hml hown hB hK.1 hW hS ⟨Nat.le_of_ble_eq_true rfl, Nat.le_of_ble_eq_true rfl⟩ rfl hl.1 rfl (Nat.le_of_ble_eq_true rfl) rfl dX5_init_93 (fun H locs hW hS => ?_)
  refine lv_iconst (v := 1) hx hb dX5_init_96 (by decide) ?_
  refine lv_iadd hx hb dX5_init_97 ?_
  rw [show ((34 : Int32) + 1) = 35 from by decide]
  refine lv_sipush (v := 500) hx hb dX5_init_98 (by decide) ?_
  refine p_iast hx hb hK.1 hW hS ha 1 rfl (k := 35) (by decide) (vp_in_nI (n := 35) (by decide) (by decide)) dX5_init_101 (fun H locs hW hS => ?_)
  have hW : PB E (L ++ ([.inr (5, [rf E (a + 1), rf E (a + 2), rf E (a + 3), .int 0, rf E (a + 4), .int 0, .int 0, .int 0, .int 0, .int 0, rf E (a + 5), .long 0]), ar E 442 (upd (upd (upd (upd (upd (upd (upd (fun _ => 0) 2 2) 3 1) 4 50) 6 500) 7 500) 34 500) 35 500), ar E 2652 (fun _ => 0), ar E 442 (fun _ => 0), ar E 60 (fun _ => 0), ar E 45 (fun _ => 0)])) H := hW
  refine lv_iinc (v := 2) (lv' := [(1, .int 2), (0, rf E a)]) hx hb dX5_init_102 hl (k := 0) rfl (by decide) (by decide) rfl (fun ls hl => ?_)
  refine lv_goto (tgt := 71) hx hb dX5_init_105 (by decide) ?_
  refine lv_iload_n hx hb dX5_init_71 rfl (lv_at hl 0 rfl) ?_
  refine lv_iconst (v := 4) hx hb dX5_init_72 (by decide) ?_
  refine lv_icmp_ge (tgt := 108) hx hb dX5_init_73 (by decide) (fun c1 => absurd c1 (by decide)) (fun _ => ?_)
  refine lv_aload_n hx hb dX5_init_76 rfl (lv_at hl 1 rfl) ?_
  refine p_get hx hb hB hK.1 (C := RX5) (T := TX5) (N := 12) (ci := 5) inB_X5 hown hW ha 0 rfl rfl 0 (by decide) rfl q_915 (v := rf E (a + 1)) rfl dX5_init_77 ?_
  refine lv_iload_n hx hb dX5_init_80 rfl (lv_at hl 0 rfl) ?_
  refine c_S (As := [.int 2]) (st1 := .int 62 :: [rf E (a + 1)]) (rest := [rf E (a + 1)]) (m_at l E (r := 62) (by decide)) (kc_X5_25 hB ⟨Nat.le_of_ble_eq_true rfl, Nat.le_of_ble_eq_true rfl⟩) hx hb hml hown hB hK.1 hW hS ⟨Nat.le_of_ble_eq_true rfl, Nat.le_of_ble_eq_true rfl⟩ rfl hl.1 rfl (Nat.le_of_ble_eq_true rfl) rfl dX5_init_81 (fun H locs hW hS => ?_)
  refine lv_sipush (v := 500) hx hb dX5_init_84 (by decide) ?_
  refine p_iast hx hb hK.1 hW hS ha 1 rfl (k := 62) (by decide) (vp_in_nI (n := 62) (by decide) (by decide)) dX5_init_87 (fun H locs hW hS => ?_)
  have hW : PB E (L ++ ([.inr (5, [rf E (a + 1), rf E (a + 2), rf E (a + 3), .int 0, rf E (a + 4), .int 0, .int 0, .int 0, .int 0, .int 0, rf E (a + 5), .long 0]), ar E 442 (upd (upd (upd (upd (upd (upd (upd (upd (fun _ => 0) 2 2) 3 1) 4 50) 6 500) 7 500) 34 500) 35 500) 62 500), ar E 2652 (fun _ => 0), ar E 442 (fun _ => 0), ar E 60 (fun _ => 0), ar E 45 (fun _ => 0)])) H := hW
  refine lv_aload_n hx hb dX5_init_88 rfl (lv_at hl 1 rfl) ?_
  refine p_get hx hb hB hK.1 (C := RX5) (T := TX5) (N := 12) (ci := 5) inB_X5 hown hW ha 0 rfl rfl 0 (by decide) rfl q_915 (v := rf E (a + 1)) rfl dX5_init_89 ?_
  refine lv_iload_n hx hb dX5_init_92 rfl (lv_at hl 0 rfl) ?_
  refine c_S (As := [.int 2]) (st1 := .int 62 :: [rf E (a + 1)]) (rest := [rf E (a + 1)]) (m_at l E (r := 62) (by decide)) (kc_X5_25 hB ⟨Nat.le_of_ble_eq_true rfl, Nat.le_of_ble_eq_true rfl⟩) hx hb hml hown hB hK.1 hW hS ⟨Nat.le_of_ble_eq_true rfl, Nat.le_of_ble_eq_true rfl⟩ rfl hl.1 rfl (Nat.le_of_ble_eq_true rfl) rfl dX5_init_93 (fun H locs hW hS => ?_)
  refine lv_iconst (v := 1) hx hb dX5_init_96 (by decide) ?_
  refine lv_iadd hx hb dX5_init_97 ?_
  rw [show ((62 : Int32) + 1) = 63 from by decide]
  refine lv_sipush (v := 500) hx hb dX5_init_98 (by decide) ?_
  refine p_iast hx hb hK.1 hW hS ha 1 rfl (k := 63) (by decide) (vp_in_nI (n := 63) (by decide) (by decide)) dX5_init_101 (fun H locs hW hS => ?_)
  have hW : PB E (L ++ ([.inr (5, [rf E (a + 1), rf E (a + 2), rf E (a + 3), .int 0, rf E (a + 4), .int 0, .int 0, .int 0, .int 0, .int 0, rf E (a + 5), .long 0]), ar E 442 (upd (upd (upd (upd (upd (upd (upd (upd (upd (fun _ => 0) 2 2) 3 1) 4 50) 6 500) 7 500) 34 500) 35 500) 62 500) 63 500), ar E 2652 (fun _ => 0), ar E 442 (fun _ => 0), ar E 60 (fun _ => 0), ar E 45 (fun _ => 0)])) H := hW
  refine lv_iinc (v := 3) (lv' := [(1, .int 3), (0, rf E a)]) hx hb dX5_init_102 hl (k := 0) rfl (by decide) (by decide) rfl (fun ls hl => ?_)
  refine lv_goto (tgt := 71) hx hb dX5_init_105 (by decide) ?_
  refine lv_iload_n hx hb dX5_init_71 rfl (lv_at hl 0 rfl) ?_
  refine lv_iconst (v := 4) hx hb dX5_init_72 (by decide) ?_
  refine lv_icmp_ge (tgt := 108) hx hb dX5_init_73 (by decide) (fun c1 => absurd c1 (by decide)) (fun _ => ?_)
  refine lv_aload_n hx hb dX5_init_76 rfl (lv_at hl 1 rfl) ?_
  refine p_get hx hb hB hK.1 (C := RX5) (T := TX5) (N := 12) (ci := 5) inB_X5 hown hW ha 0 rfl rfl 0 (by decide) rfl q_915 (v := rf E (a + 1)) rfl dX5_init_77 ?_
  refine lv_iload_n hx hb dX5_init_80 rfl (lv_at hl 0 rfl) ?_
  refine c_S (As := [.int 3]) (st1 := .int 90 :: [rf E (a + 1)]) (rest := [rf E (a + 1)]) (m_at l E (r := 90) (by decide)) (kc_X5_25 hB ⟨Nat.le_of_ble_eq_true rfl, Nat.le_of_ble_eq_true rfl⟩) hx hb hml hown hB hK.1 hW hS ⟨Nat.le_of_ble_eq_true rfl, Nat.le_of_ble_eq_true rfl⟩ rfl hl.1 rfl (Nat.le_of_ble_eq_true rfl) rfl dX5_init_81 (fun H locs hW hS => ?_)
  refine lv_sipush (v := 500) hx hb dX5_init_84 (by decide) ?_
  refine p_iast hx hb hK.1 hW hS ha 1 rfl (k := 90) (by decide) (vp_in_nI (n := 90) (by decide) (by decide)) dX5_init_87 (fun H locs hW hS => ?_)
  have hW : PB E (L ++ ([.inr (5, [rf E (a + 1), rf E (a + 2), rf E (a + 3), .int 0, rf E (a + 4), .int 0, .int 0, .int 0, .int 0, .int 0, rf E (a + 5), .long 0]), ar E 442 (upd (upd (upd (upd (upd (upd (upd (upd (upd (upd (fun _ => 0) 2 2) 3 1) 4 50) 6 500) 7 500) 34 500) 35 500) 62 500) 63 500) 90 500), ar E 2652 (fun _ => 0), ar E 442 (fun _ => 0), ar E 60 (fun _ => 0), ar E 45 (fun _ => 0)])) H := hW
  refine lv_aload_n hx hb dX5_init_88 rfl (lv_at hl 1 rfl) ?_
  refine p_get hx hb hB hK.1 (C := RX5) (T := TX5) (N := 12) (ci := 5) inB_X5 hown hW ha 0 rfl rfl 0 (by decide) rfl q_915 (v := rf E (a + 1)) rfl dX5_init_89 ?_
  refine lv_iload_n hx hb dX5_init_92 rfl (lv_at hl 0 rfl) ?_
  refine c_S (As := [.int 3]) (st1 := .int 90 :: [rf E (a + 1)]) (rest := [rf E (a + 1)]) (m_at l E (r := 90) (by decide)) (kc_X5_25 hB ⟨Nat.le_of_ble_eq_true rfl, Nat.le_of_ble_eq_true rfl⟩) hx hb hml hown hB hK.1 hW hS ⟨Nat.le_of_ble_eq_true rfl, Nat.le_of_ble_eq_true rfl⟩ rfl hl.1 rfl (Nat.le_of_ble_eq_true rfl) rfl dX5_init_93 (fun H locs hW hS => ?_)
  refine lv_iconst (v := 1) hx hb dX5_init_96 (by decide) ?_
  refine lv_iadd hx hb dX5_init_97 ?_
  rw [show ((90 : Int32) + 1) = 91 from by decide]
  refine lv_sipush (v := 500) hx hb dX5_init_98 (by decide) ?_
  refine p_iast hx hb hK.1 hW hS ha 1 rfl (k := 91) (by decide) (vp_in_nI (n := 91) (by decide) (by decide)) dX5_init_101 (fun H locs hW hS => ?_)
  have hW : PB E (L ++ ([.inr (5, [rf E (a + 1), rf E (a + 2), rf E (a + 3), .int 0, rf E (a + 4), .int 0, .int 0, .int 0, .int 0, .int 0, rf E (a + 5), .long 0]), ar E 442 (upd (upd (upd (upd (upd (upd (upd (upd (upd (upd (upd (fun _ => 0) 2 2) 3 1) 4 50) 6 500) 7 500) 34 500) 35 500) 62 500) 63 500) 90 500) 91 500), ar E 2652 (fun _ => 0), ar E 442 (fun _ => 0), ar E 60 (fun _ => 0), ar E 45 (fun _ => 0)])) H := hW
  refine lv_iinc (v := 4) (lv' := [(1, .int 4), (0, rf E a)]) hx hb dX5_init_102 hl (k := 0) rfl (by decide) (by decide) rfl (fun ls hl => ?_)
  refine lv_goto (tgt := 71) hx hb dX5_init_105 (by decide) ?_
  refine lv_iload_n hx hb dX5_init_71 rfl (lv_at hl 0 rfl) ?_
  refine lv_iconst (v := 4) hx hb dX5_init_72 (by decide) ?_
  refine lv_icmp_ge (tgt := 108) hx hb dX5_init_73 (by decide) (fun _ => ?_) (fun c1 => absurd (by decide) c1)
  refine lv_iconst (v := 0) hx hb dX5_init_108 (by decide) ?_
  refine lv_istore_n (lv' := [(1, .int 0), (0, rf E a)]) hx hb dX5_init_109 rfl hl (by decide) rfl (fun ls hl => ?_)
  refine lv_iload_n hx hb dX5_init_110 rfl (lv_at hl 0 rfl) ?_
  refine lv_bipush (v := 12) hx hb dX5_init_111 (by decide) ?_
  refine lv_icmp_ge (tgt := 132) hx hb dX5_init_113 (by decide) (fun c1 => absurd c1 (by decide)) (fun _ => ?_)
  refine lv_aload_n hx hb dX5_init_116 rfl (lv_at hl 1 rfl) ?_
  refine p_get hx hb hB hK.1 (C := RX5) (T := TX5) (N := 12) (ci := 5) inB_X5 hown hW ha 0 rfl rfl 0 (by decide) rfl q_915 (v := rf E (a + 1)) rfl dX5_init_117 ?_
  refine lv_bipush (v := 118) hx hb dX5_init_120 (by decide) ?_
  refine lv_iload_n hx hb dX5_init_122 rfl (lv_at hl 0 rfl) ?_
  refine lv_iadd hx hb dX5_init_123 ?_
  rw [show ((118 : Int32) + 0) = 118 from by decide]
  refine lv_iconst (v := -1) hx hb dX5_init_124 (by decide) ?_
  refine p_iast hx hb hK.1 hW hS ha 1 rfl (k := 118) (by decide) (vp_in_nI (n := 118) (by decide) (by decide)) dX5_init_125 (fun H locs hW hS => ?_)
  have hW : PB E (L ++ ([.inr (5, [rf E (a + 1), rf E (a + 2), rf E (a + 3), .int 0, rf E (a + 4), .int 0, .int 0, .int 0, .int 0, .int 0, rf E (a + 5), .long 0]), ar E 442 (upd (upd (upd (upd (upd (upd (upd (upd (upd (upd (upd (upd (fun _ => 0) 2 2) 3 1) 4 50) 6 500) 7 500) 34 500) 35 500) 62 500) 63 500) 90 500) 91 500) 118 (-1)), ar E 2652 (fun _ => 0), ar E 442 (fun _ => 0), ar E 60 (fun _ => 0), ar E 45 (fun _ => 0)])) H := hW
  refine lv_iinc (v := 1) (lv' := [(1, .int 1), (0, rf E a)]) hx hb dX5_init_126 hl (k := 0) rfl (by decide) (by decide) rfl (fun ls hl => ?_)
  refine lv_goto (tgt := 110) hx hb dX5_init_129 (by decide) ?_
  refine lv_iload_n hx hb dX5_init_110 rfl (lv_at hl 0 rfl) ?_
  refine lv_bipush (v := 12) hx hb dX5_init_111 (by decide) ?_
  refine lv_icmp_ge (tgt := 132) hx hb dX5_init_113 (by decide) (fun c1 => absurd c1 (by decide)) (fun _ => ?_)
  refine lv_aload_n hx hb dX5_init_116 rfl (lv_at hl 1 rfl) ?_
  refine p_get hx hb hB hK.1 (C := RX5) (T := TX5) (N := 12) (ci := 5) inB_X5 hown hW ha 0 rfl rfl 0 (by decide) rfl q_915 (v := rf E (a + 1)) rfl dX5_init_117 ?_
  refine lv_bipush (v := 118) hx hb dX5_init_120 (by decide) ?_
  refine lv_iload_n hx hb dX5_init_122 rfl (lv_at hl 0 rfl) ?_
  refine lv_iadd hx hb dX5_init_123 ?_
  rw [show ((118 : Int32) + 1) = 119 from by decide]
  refine lv_iconst (v := -1) hx hb dX5_init_124 (by decide) ?_
  refine p_iast hx hb hK.1 hW hS ha 1 rfl (k := 119) (by decide) (vp_in_nI (n := 119) (by decide) (by decide)) dX5_init_125 (fun H locs hW hS => ?_)
  have hW : PB E (L ++ ([.inr (5, [rf E (a + 1), rf E (a + 2), rf E (a + 3), .int 0, rf E (a + 4), .int 0, .int 0, .int 0, .int 0, .int 0, rf E (a + 5), .long 0]), ar E 442 (upd (upd (upd (upd (upd (upd (upd (upd (upd (upd (upd (upd (upd (fun _ => 0) 2 2) 3 1) 4 50) 6 500) 7 500) 34 500) 35 500) 62 500) 63 500) 90 500) 91 500) 118 (-1)) 119 (-1)), ar E 2652 (fun _ => 0), ar E 442 (fun _ => 0), ar E 60 (fun _ => 0), ar E 45 (fun _ => 0)])) H := hW
  refine lv_iinc (v := 2) (lv' := [(1, .int 2), (0, rf E a)]) hx hb dX5_init_126 hl (k := 0) rfl (by decide) (by decide) rfl (fun ls hl => ?_)
  refine lv_goto (tgt := 110) hx hb dX5_init_129 (by decide) ?_
  refine lv_iload_n hx hb dX5_init_110 rfl (lv_at hl 0 rfl) ?_
  refine lv_bipush (v := 12) hx hb dX5_init_111 (by decide) ?_
  refine lv_icmp_ge (tgt := 132) hx hb dX5_init_113 (by decide) (fun c1 => absurd c1 (by decide)) (fun _ => ?_)
  refine lv_aload_n hx hb dX5_init_116 rfl (lv_at hl 1 rfl) ?_
  refine p_get hx hb hB hK.1 (C := RX5) (T := TX5) (N := 12) (ci := 5) inB_X5 hown hW ha 0 rfl rfl 0 (by decide) rfl q_915 (v := rf E (a + 1)) rfl dX5_init_117 ?_
  refine lv_bipush (v := 118) hx hb dX5_init_120 (by decide) ?_
  refine lv_iload_n hx hb dX5_init_122 rfl (lv_at hl 0 rfl) ?_
  refine lv_iadd hx hb dX5_init_123 ?_
  rw [show ((118 : Int32) + 2) = 120 from by decide]
  refine lv_iconst (v := -1) hx hb dX5_init_124 (by decide) ?_
  refine p_iast hx hb hK.1 hW hS ha 1 rfl (k := 120) (by decide) (vp_in_nI (n := 120) (by decide) (by decide)) dX5_init_125 (fun H locs hW hS => ?_)
  have hW : PB E (L ++ ([.inr (5, [rf E (a + 1), rf E (a + 2), rf E (a + 3), .int 0, rf E (a + 4), .int 0, .int 0, .int 0, .int 0, .int 0, rf E (a + 5), .long 0]), ar E 442 (upd (upd (upd (upd (upd (upd (upd (upd (upd (upd (upd (upd (upd (upd (fun _ => 0) 2 2) 3 1) 4 50) 6 500) 7 500) 34 500) 35 500) 62 500) 63 500) 90 500) 91 500) 118 (-1)) 119 (-1)) 120 (-1)), ar E 2652 (fun _ => 0), ar E 442 (fun _ => 0), ar E 60 (fun _ => 0), ar E 45 (fun _ => 0)])) H := hW
  refine lv_iinc (v := 3) (lv' := [(1, .int 3), (0, rf E a)]) hx hb dX5_init_126 hl (k := 0) rfl (by decide) (by decide) rfl (fun ls hl => ?_)
  refine lv_goto (tgt := 110) hx hb dX5_init_129 (by decide) ?_
  refine lv_iload_n hx hb dX5_init_110 rfl (lv_at hl 0 rfl) ?_
  refine lv_bipush (v := 12) hx hb dX5_init_111 (by decide) ?_
  refine lv_icmp_ge (tgt := 132) hx hb dX5_init_113 (by decide) (fun c1 => absurd c1 (by decide)) (fun _ => ?_)
  refine lv_aload_n hx hb dX5_init_116 rfl (lv_at hl 1 rfl) ?_
  refine p_get hx hb hB hK.1 (C := RX5) (T := TX5) (N := 12) (ci := 5) inB_X5 hown hW ha 0 rfl rfl 0 (by decide) rfl q_915 (v := rf E (a + 1)) rfl dX5_init_117 ?_
  refine lv_bipush (v := 118) hx hb dX5_init_120 (by decide) ?_
  refine lv_iload_n hx hb dX5_init_122 rfl (lv_at hl 0 rfl) ?_
  refine lv_iadd hx hb dX5_init_123 ?_
  rw [show ((118 : Int32) + 3) = 121 from by decide]
  refine lv_iconst (v := -1) hx hb dX5_init_124 (by decide) ?_
  refine p_iast hx hb hK.1 hW hS ha 1 rfl (k := 121) (by decide) (vp_in_nI (n := 121) (by decide) (by decide)) dX5_init_125 (fun H locs hW hS => ?_)
  have hW : PB E (L ++ ([.inr (5, [rf E (a + 1), rf E (a + 2), rf E (a + 3), .int 0, rf E (a + 4), .int 0, .int 0, .int 0, .int 0, .int 0, rf E (a + 5), .long 0]), ar E 442 (upd (upd (upd (upd (upd (upd (upd (upd (upd (upd (upd (upd (upd (upd (upd (fun _ => 0) 2 2) 3 1) 4 50) 6 500) 7 500) 34 500) 35 500) 62 500) 63 500) 90 500) 91 500) 118 (-1)) 119 (-1)) 120 (-1)) 121 (-1)), ar E 2652 (fun _ => 0), ar E 442 (fun _ => 0), ar E 60 (fun _ => 0), ar E 45 (fun _ => 0)])) H := hW
  refine lv_iinc (v := 4) (lv' := [(1, .int 4), (0, rf E a)]) hx hb dX5_init_126 hl (k := 0) rfl (by decide) (by decide) rfl (fun ls hl => ?_)
  refine lv_goto (tgt := 110) hx hb dX5_init_129 (by decide) ?_
  refine lv_iload_n hx hb dX5_init_110 rfl (lv_at hl 0 rfl) ?_
  refine lv_bipush (v := 12) hx hb dX5_init_111 (by decide) ?_
  refine lv_icmp_ge (tgt := 132) hx hb dX5_init_113 (by decide) (fun c1 => absurd c1 (by decide)) (fun _ => ?_)
  refine lv_aload_n hx hb dX5_init_116 rfl (lv_at hl 1 rfl) ?_
  refine p_get hx hb hB hK.1 (C := RX5) (T := TX5) (N := 12) (ci := 5) inB_X5 hown hW ha 0 rfl rfl 0 (by decide) rfl q_915 (v := rf E (a + 1)) rfl dX5_init_117 ?_
  refine lv_bipush (v := 118) hx hb dX5_init_120 (by decide) ?_
  refine lv_iload_n hx hb dX5_init_122 rfl (lv_at hl 0 rfl) ?_
  refine lv_iadd hx hb dX5_init_123 ?_
  rw [show ((118 : Int32) + 4) = 122 from by decide]
  refine lv_iconst (v := -1) hx hb dX5_init_124 (by decide) ?_
  refine p_iast hx hb hK.1 hW hS ha 1 rfl (k := 122) (by decide) (vp_in_nI (n := 122) (by decide) (by decide)) dX5_init_125 (fun H locs hW hS => ?_)
  have hW : PB E (L ++ ([.inr (5, [rf E (a + 1), rf E (a + 2), rf E (a + 3), .int 0, rf E (a + 4), .int 0, .int 0, .int 0, .int 0, .int 0, rf E (a + 5), .long 0]), ar E 442 (upd (upd (upd (upd (upd (upd (upd (upd (upd (upd (upd (upd (upd (upd (upd (upd (fun _ => 0) 2 2) 3 1) 4 50) 6 500) 7 500) 34 500) 35 500) 62 500) 63 500) 90 500) 91 500) 118 (-1)) 119 (-1)) 120 (-1)) 121 (-1)) 122 (-1)), ar E 2652 (fun _ => 0), ar E 442 (fun _ => 0), ar E 60 (fun _ => 0), ar E 45 (fun _ => 0)])) H := hW
  refine lv_iinc (v := 5) (lv' := [(1, .int 5), (0, rf E a)]) hx hb dX5_init_126 hl (k := 0) rfl (by decide) (by decide) rfl (fun ls hl => ?_)
  refine lv_goto (tgt := 110) hx hb dX5_init_129 (by decide) ?_
  refine lv_iload_n hx hb dX5_init_110 rfl (lv_at hl 0 rfl) ?_
  refine lv_bipush (v := 12) hx hb dX5_init_111 (by decide) ?_
  refine lv_icmp_ge (tgt := 132) hx hb dX5_init_113 (by decide) (fun c1 => absurd c1 (by decide)) (fun _ => ?_)
  refine lv_aload_n hx hb dX5_init_116 rfl (lv_at hl 1 rfl) ?_
  refine p_get hx hb hB hK.1 (C := RX5) (T := TX5) (N := 12) (ci := 5) inB_X5 hown hW ha 0 rfl rfl 0 (by decide) rfl q_915 (v := rf E (a + 1)) rfl dX5_init_117 ?_
  refine lv_bipush (v := 118) hx hb dX5_init_120 (by decide) ?_
  refine lv_iload_n hx hb dX5_init_122 rfl (lv_at hl 0 rfl) ?_
  refine lv_iadd hx hb dX5_init_123 ?_
  rw [show ((118 : Int32) + 5) = 123 from by decide]
  refine lv_iconst (v := -1) hx hb dX5_init_124 (by decide) ?_
  refine p_iast hx hb hK.1 hW hS ha 1 rfl (k := 123) (by decide) (vp_in_nI (n := 123) (by decide) (by decide)) dX5_init_125 (fun H locs hW hS => ?_)
  have hW : PB E (L ++ ([.inr (5, [rf E (a + 1), rf E (a + 2), rf E (a + 3), .int 0, rf E (a + 4), .int 0, .int 0, .int 0, .int 0, .int 0, rf E (a + 5), .long 0]), ar E 442 (upd (upd (upd (upd (upd (upd (upd (upd (upd (upd (upd (upd (upd (upd (upd (upd (upd (fun _ => 0) 2 2) 3 1) 4 50) 6 500) 7 500) 34 500) 35 500) 62 500) 63 500) 90 500) 91 500) 118 (-1)) 119 (-1)) 120 (-1)) 121 (-1)) 122 (-1)) 123 (-1)), ar E 2652 (fun _ => 0), ar E 442 (fun _ => 0), ar E 60 (fun _ => 0), ar E 45 (fun _ => 0)])) H := hW
  refine lv_iinc (v := 6) (lv' := [(1, .int 6), (0, rf E a)]) hx hb dX5_init_126 hl (k := 0) rfl (by decide) (by decide) rfl (fun ls hl => ?_)
  refine lv_goto (tgt := 110) hx hb dX5_init_129 (by decide) ?_
  refine lv_iload_n hx hb dX5_init_110 rfl (lv_at hl 0 rfl) ?_
  refine lv_bipush (v := 12) hx hb dX5_init_111 (by decide) ?_
  refine lv_icmp_ge (tgt := 132) hx hb dX5_init_113 (by decide) (fun c1 => absurd c1 (by decide)) (fun _ => ?_)
  refine lv_aload_n hx hb dX5_init_116 rfl (lv_at hl 1 rfl) ?_
  refine p_get hx hb hB hK.1 (C := RX5) (T := TX5) (N := 12) (ci := 5) inB_X5 hown hW ha 0 rfl rfl 0 (by decide) rfl q_915 (v := rf E (a + 1)) rfl dX5_init_117 ?_
  refine lv_bipush (v := 118) hx hb dX5_init_120 (by decide) ?_
  refine lv_iload_n hx hb dX5_init_122 rfl (lv_at hl 0 rfl) ?_
  refine lv_iadd hx hb dX5_init_123 ?_
  rw [show ((118 : Int32) + 6) = 124 from by decide]
  refine lv_iconst (v := -1) hx hb dX5_init_124 (by decide) ?_
  refine p_iast hx hb hK.1 hW hS ha 1 rfl (k := 124) (by decide) (vp_in_nI (n := 124) (by decide) (by decide)) dX5_init_125 (fun H locs hW hS => ?_)
  have hW : PB E (L ++ ([.inr (5, [rf E (a + 1), rf E (a + 2), rf E (a + 3), .int 0, rf E (a + 4), .int 0, .int 0, .int 0, .int 0, .int 0, rf E (a + 5), .long 0]), ar E 442 (upd (upd (upd (upd (upd (upd (upd (upd (upd (upd (upd (upd (upd (upd (upd (upd (upd (upd (fun _ => 0) 2 2) 3 1) 4 50) 6 500) 7 500) 34 500) 35 500) 62 500) 63 500) 90 500) 91 500) 118 (-1)) 119 (-1)) 120 (-1)) 121 (-1)) 122 (-1)) 123 (-1)) 124 (-1)), ar E 2652 (fun _ => 0), ar E 442 (fun _ => 0), ar E 60 (fun _ => 0), ar E 45 (fun _ => 0)])) H := hW
  refine lv_iinc (v := 7) (lv' := [(1, .int 7), (0, rf E a)]) hx hb dX5_init_126 hl (k := 0) rfl (by decide) (by decide) rfl (fun ls hl => ?_)
  refine lv_goto (tgt := 110) hx hb dX5_init_129 (by decide) ?_
  refine lv_iload_n hx hb dX5_init_110 rfl (lv_at hl 0 rfl) ?_
  refine lv_bipush (v := 12) hx hb dX5_init_111 (by decide) ?_
  refine lv_icmp_ge (tgt := 132) hx hb dX5_init_113 (by decide) (fun c1 => absurd c1 (by decide)) (fun _ => ?_)
  refine lv_aload_n hx hb dX5_init_116 rfl (lv_at hl 1 rfl) ?_
  refine p_get hx hb hB hK.1 (C := RX5) (T := TX5) (N := 12) (ci := 5) inB_X5 hown hW ha 0 rfl rfl 0 (by decide) rfl q_915 (v := rf E (a + 1)) rfl dX5_init_117 ?_
  refine lv_bipush (v := 118) hx hb dX5_init_120 (by decide) ?_
  refine lv_iload_n hx hb dX5_init_122 rfl (lv_at hl 0 rfl) ?_
  refine lv_iadd hx hb dX5_init_123 ?_
  rw [show ((118 : Int32) + 7) = 125 from by decide]
  refine lv_iconst (v := -1) hx hb dX5_init_124 (by decide) ?_
  refine p_iast hx hb hK.1 hW hS ha 1 rfl (k := 125) (by decide) (vp_in_nI (n := 125) (by decide) (by decide)) dX5_init_125 (fun H locs hW hS => ?_)
  have hW : PB E (L ++ ([.inr (5, [rf E (a + 1), rf E (a + 2), rf E (a + 3), .int 0, rf E (a + 4), .int 0, .int 0, .int 0, .int 0, .int 0, rf E (a + 5), .long 0]), ar E 442 (upd (upd (upd (upd (upd (upd (upd (upd (upd (upd (upd (upd (upd (upd (upd (upd (upd (upd (upd (fun _ => 0) 2 2) 3 1) 4 50) 6 500) 7 500) 34 500) 35 500) 62 500) 63 500) 90 500) 91 500) 118 (-1)) 119 (-1)) 120 (-1)) 121 (-1)) 122 (-1)) 123 (-1)) 124 (-1)) 125 (-1)), ar E 2652 (fun _ => 0), ar E 442 (fun _ => 0), ar E 60 (fun _ => 0), ar E 45 (fun _ => 0)])) H := hW
  refine lv_iinc (v := 8) (lv' := [(1, .int 8), (0, rf E a)]) hx hb dX5_init_126 hl (k := 0) rfl (by decide) (by decide) rfl (fun ls hl => ?_)
  refine lv_goto (tgt := 110) hx hb dX5_init_129 (by decide) ?_
  refine lv_iload_n hx hb dX5_init_110 rfl (lv_at hl 0 rfl) ?_
  refine lv_bipush (v := 12) hx hb dX5_init_111 (by decide) ?_
  refine lv_icmp_ge (tgt := 132) hx hb dX5_init_113 (by decide) (fun c1 => absurd c1 (by decide)) (fun _ => ?_)
  refine lv_aload_n hx hb dX5_init_116 rfl (lv_at hl 1 rfl) ?_
  refine p_get hx hb hB hK.1 (C := RX5) (T := TX5) (N := 12) (ci := 5) inB_X5 hown hW ha 0 rfl rfl 0 (by decide) rfl q_915 (v := rf E (a + 1)) rfl dX5_init_117 ?_
  refine lv_bipush (v := 118) hx hb dX5_init_120 (by decide) ?_
  refine lv_iload_n hx hb dX5_init_122 rfl (lv_at hl 0 rfl) ?_
  refine lv_iadd hx hb dX5_init_123 ?_
  rw [show ((118 : Int32) + 8) = 126 from by decide]
  refine lv_iconst (v := -1) hx hb dX5_init_124 (by decide) ?_
  refine p_iast hx hb hK.1 hW hS ha 1 rfl (k := 126) (by decide) (vp_in_nI (n := 126) (by decide) (by decide)) dX5_init_125 (fun H locs hW hS => ?_)
  have hW : PB E (L ++ ([.inr (5, [rf E (a + 1), rf E (a + 2), rf E (a + 3), .int 0, rf E (a + 4), .int 0, .int 0, .int 0, .int 0, .int 0, rf E (a + 5), .long 0]), ar E 442 (upd (upd (upd (upd (upd (upd (upd (upd (upd (upd (upd (upd (upd (upd (upd (upd (upd (upd (upd (upd (fun _ => 0) 2 2) 3 1) 4 50) 6 500) 7 500) 34 500) 35 500) 62 500) 63 500) 90 500) 91 500) 118 (-1)) 119 (-1)) 120 (-1)) 121 (-1)) 122 (-1)) 123 (-1)) 124 (-1)) 125 (-1)) 126 (-1)), ar E 2652 (fun _ => 0), ar E 442 (fun _ => 0), ar E 60 (fun _ => 0), ar E 45 (fun _ => 0)])) H := hW
  refine lv_iinc (v := 9) (lv' := [(1, .int 9), (0, rf E a)]) hx hb dX5_init_126 hl (k := 0) rfl (by decide) (by decide) rfl (fun ls hl => ?_)
  refine lv_goto (tgt := 110) hx hb dX5_init_129 (by decide) ?_
  refine lv_iload_n hx hb dX5_init_110 rfl (lv_at hl 0 rfl) ?_
  refine lv_bipush (v := 12) hx hb dX5_init_111 (by decide) ?_
  refine lv_icmp_ge (tgt := 132) hx hb dX5_init_113 (by decide) (fun c1 => absurd c1 (by decide)) (fun _ => ?_)
  refine lv_aload_n hx hb dX5_init_116 rfl (lv_at hl 1 rfl) ?_
  refine p_get hx hb hB hK.1 (C := RX5) (T := TX5) (N := 12) (ci := 5) inB_X5 hown hW ha 0 rfl rfl 0 (by decide) rfl q_915 (v := rf E (a + 1)) rfl dX5_init_117 ?_
  refine lv_bipush (v := 118) hx hb dX5_init_120 (by decide) ?_
  refine lv_iload_n hx hb dX5_init_122 rfl (lv_at hl 0 rfl) ?_
  refine lv_iadd hx hb dX5_init_123 ?_
  rw [show ((118 : Int32) + 9) = 127 from by decide]
  refine lv_iconst (v := -1) hx hb dX5_init_124 (by decide) ?_
  refine p_iast hx hb hK.1 hW hS ha 1 rfl (k := 127) (by decide) (vp_in_nI (n := 127) (by decide) (by decide)) dX5_init_125 (fun H locs hW hS => ?_)
  have hW : PB E (L ++ ([.inr (5, [rf E (a + 1), rf E (a + 2), rf E (a + 3), .int 0, rf E (a + 4), .int 0, .int 0, .int 0, .int 0, .int 0, rf E (a + 5), .long 0]), ar E 442 (upd (upd (upd (upd (upd (upd (upd (upd (upd (upd (upd (upd (upd (upd (upd (upd (upd (upd (upd (upd (upd (fun _ => 0) 2 2) 3 1) 4 50) 6 500) 7 500) 34 500) 35 500) 62 500) 63 500) 90 500) 91 500) 118 (-1)) 119 (-1)) 120 (-1)) 121 (-1)) 122 (-1)) 123 (-1)) 124 (-1)) 125 (-1)) 126 (-1)) 127 (-1)), ar E 2652 (fun _ => 0), ar E 442 (fun _ => 0), ar E 60 (fun _ => 0), ar E 45 (fun _ => 0)])) H := hW
  refine lv_iinc (v := 10) (lv' := [(1, .int 10), (0, rf E a)]) hx hb dX5_init_126 hl (k := 0) rfl (by decide) (by decide) rfl (fun ls hl => ?_)
  refine lv_goto (tgt := 110) hx hb dX5_init_129 (by decide) ?_
  refine lv_iload_n hx hb dX5_init_110 rfl (lv_at hl 0 rfl) ?_
  refine lv_bipush (v := 12) hx hb dX5_init_111 (by decide) ?_
  refine lv_icmp_ge (tgt := 132) hx hb dX5_init_113 (by decide) (fun c1 => absurd c1 (by decide)) (fun _ => ?_)
  refine lv_aload_n hx hb dX5_init_116 rfl (lv_at hl 1 rfl) ?_
  refine p_get hx hb hB hK.1 (C := RX5) (T := TX5) (N := 12) (ci := 5) inB_X5 hown hW ha 0 rfl rfl 0 (by decide) rfl q_915 (v := rf E (a + 1)) rfl dX5_init_117 ?_
  refine lv_bipush (v := 118) hx hb dX5_init_120 (by decide) ?_
  refine lv_iload_n hx hb dX5_init_122 rfl (lv_at hl 0 rfl) ?_
  refine lv_iadd hx hb dX5_init_123 ?_
  rw [show ((118 : Int32) + 10) = 128 from by decide]
  refine lv_iconst (v := -1) hx hb dX5_init_124 (by decide) ?_
  refine p_iast hx hb hK.1 hW hS ha 1 rfl (k := 128) (by decide) (vp_in_nI (n := 128) (by decide) (by decide)) dX5_init_125 (fun H locs hW hS => ?_)
  have hW : PB E (L ++ ([.inr (5, [rf E (a + 1), rf E (a + 2), rf E (a + 3), .int 0, rf E (a + 4), .int 0, .int 0, .int 0, .int 0, .int 0, rf E (a + 5), .long 0]), ar E 442 (upd (upd (upd (upd (upd (upd (upd (upd (upd (upd (upd (upd (upd (upd (upd (upd (upd (upd (upd (upd (upd (upd (fun _ => 0) 2 2) 3 1) 4 50) 6 500) 7 500) 34 500) 35 500) 62 500) 63 500) 90 500) 91 500) 118 (-1)) 119 (-1)) 120 (-1)) 121 (-1)) 122 (-1)) 123 (-1)) 124 (-1)) 125 (-1)) 126 (-1)) 127 (-1)) 128 (-1)), ar E 2652 (fun _ => 0), ar E 442 (fun _ => 0), ar E 60 (fun _ => 0), ar E 45 (fun _ => 0)])) H := hW
  refine lv_iinc (v := 11) (lv' := [(1, .int 11), (0, rf E a)]) hx hb dX5_init_126 hl (k := 0) rfl (by decide) (by decide) rfl (fun ls hl => ?_)
  refine lv_goto (tgt := 110) hx hb dX5_init_129 (by decide) ?_
  refine lv_iload_n hx hb dX5_init_110 rfl (lv_at hl 0 rfl) ?_
  refine lv_bipush (v := 12) hx hb dX5_init_111 (by decide) ?_
  refine lv_icmp_ge (tgt := 132) hx hb dX5_init_113 (by decide) (fun c1 => absurd c1 (by decide)) (fun _ => ?_)
  refine lv_aload_n hx hb dX5_init_116 rfl (lv_at hl 1 rfl) ?_
  refine p_get hx hb hB hK.1 (C := RX5) (T := TX5) (N := 12) (ci := 5) inB_X5 hown hW ha 0 rfl rfl 0 (by decide) rfl q_915 (v := rf E (a + 1)) rfl dX5_init_117 ?_
  refine lv_bipush (v := 118) hx hb dX5_init_120 (by decide) ?_
  refine lv_iload_n hx hb dX5_init_122 rfl (lv_at hl 0 rfl) ?_
  refine lv_iadd hx hb dX5_init_123 ?_
  rw [show ((118 : Int32) + 11) = 129 from by decide]
  refine lv_iconst (v := -1) hx hb dX5_init_124 (by decide) ?_
  refine p_iast hx hb hK.1 hW hS ha 1 rfl (k := 129) (by decide) (vp_in_nI (n := 129) (by decide) (by decide)) dX5_init_125 (fun H locs hW hS => ?_)
  have hW : PB E (L ++ ([.inr (5, [rf E (a + 1), rf E (a + 2), rf E (a + 3), .int 0, rf E (a + 4), .int 0, .int 0, .int 0, .int 0, .int 0, rf E (a + 5), .long 0]), ar E 442 (upd (upd (upd (upd (upd (upd (upd (upd (upd (upd (upd (upd (upd (upd (upd (upd (upd (upd (upd (upd (upd (upd (upd (fun _ => 0) 2 2) 3 1) 4 50) 6 500) 7 500) 34 500) 35 500) 62 500) 63 500) 90 500) 91 500) 118 (-1)) 119 (-1)) 120 (-1)) 121 (-1)) 122 (-1)) 123 (-1)) 124 (-1)) 125 (-1)) 126 (-1)) 127 (-1)) 128 (-1)) 129 (-1)), ar E 2652 (fun _ => 0), ar E 442 (fun _ => 0), ar E 60 (fun _ => 0), ar E 45 (fun _ => 0)])) H := hW
  refine lv_iinc (v := 12) (lv' := [(1, .int 12), (0, rf E a)]) hx hb dX5_init_126 hl (k := 0) rfl (by decide) (by decide) rfl (fun ls hl => ?_)
  refine lv_goto (tgt := 110) hx hb dX5_init_129 (by decide) ?_
  refine lv_iload_n hx hb dX5_init_110 rfl (lv_at hl 0 rfl) ?_
  refine lv_bipush (v := 12) hx hb dX5_init_111 (by decide) ?_
  refine lv_icmp_ge (tgt := 132) hx hb dX5_init_113 (by decide) (fun _ => ?_) (fun c1 => absurd (by decide) c1)
  exact e_c hx hb hr hlk hW hS dX5_init_132
