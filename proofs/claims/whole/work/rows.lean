section
/-! ===== BEGIN words of one list among another's, by their places ===== -/
theorem goodIn_r {big : List Cond} (ws : List Cond) (ps : List Nat) (hp : ws = ps.filterMap (fun i => big[i]?)) (h : ws.all goodWord = true) : GoodIn big ws := by
  intro w hw
  have h1 := List.all_eq_true.mp h w hw
  rw [hp] at hw
  obtain ⟨i, -, hi⟩ := List.mem_filterMap.mp hw
  have hm : w ∈ big := by first | exact List.mem_of_getElem? hi | exact List.getElem?_mem hi
  exact ⟨hm, good_of_word h1⟩
theorem goodIn_app {big a b : List Cond} (ha : GoodIn big a) (hb : GoodIn big b) : GoodIn big (a ++ b) := fun w h => (List.mem_append.mp h).elim (ha w) (hb w)
theorem goodIn_ca {big a b : List Cond} {c : Cond} (ha : GoodIn big (c :: a)) (hb : GoodIn big b) : GoodIn big (c :: (a ++ b)) := fun w h => (List.mem_cons.mp h).elim (fun e => ha w (List.mem_cons.mpr (Or.inl e))) (fun h => (List.mem_append.mp h).elim (fun h => ha w (List.mem_cons.mpr (Or.inr h))) (hb w))
theorem goodIn_sub {big ws : List Cond} (hm : ∀ w ∈ ws, w ∈ big) (h : ws.all goodWord = true) : GoodIn big ws := fun w hw => ⟨hm w hw, good_of_word (List.all_eq_true.mp h w hw)⟩
/-! ===== END ===== -/

/-! ===== BEGIN exceptions that leave a method, and their catching by the caller (launches without stack traces) ===== -/
section VXA
/-! The laws vx_back, vx_callV, vx_callS, vx_callSW, vx_throw0, vx_throwS follow proofs of the library, with one case more: JvmDerived/Free/Laws.lean (Back.of_free), Shelf42/LK1.lean (callV, callS), Shelf/KitTraced.lean (throwNew0V, throwNewS). -/
/-- where a method has thrown q: the class by its name, the cell, what was written, the world -/
def vx_T (XC : String → State → State → Prop) (st : State) (q : Addr) (t : State) (mc ms : Nat) (free : Addr → Prop) : Prop :=
  ∃ (E : String) (ce : Cell) (L : List Loc), XC E st t ∧ t.heap[q]? = some ce ∧ ce.vm = .none ∧ st.vm.findClass E = some ce.cls ∧ st.WarmedH t.vm ∧ st.sameButNew ({ t with vm := st.vm } : State) L mc ms ∧ ∀ z ∈ L, free z.base
def vx_Q (Qc : Array Value → State → Outcome → State → Prop) (XC : String → State → State → Prop) (mc ms : Nat) (free : Addr → Prop) : Array Value → State → Outcome → State → Prop := fun a st o t =>
  (Qc a st o t ∧ ∃ L, FrameEnd st o t L mc ms ∧ ∀ q ∈ L, free q.base) ∨ ∃ q, o = .threw q ∧ vx_T XC st q t mc ms free
/-- a callee that returns or throws -/
def vx_Met (l : Launch) (y : MethodName) (ws : List Cond) (rm : Room) (Pc : Array Value → State → Prop) (Qc : Array Value → State → Outcome → State → Prop) (XC : String → State → State → Prop) (mc ms : Nat) (free : Addr → Prop) : Prop :=
  MetFree l y (headSpec ws rm) Pc (fun _ _ _ _ _ => True) (vx_Q Qc XC mc ms free)
def vx_Post (XC : String → State → State → Prop) (mc ms : Nat) (free : Addr → Prop) : Pt → Array Value → Addr → Pt → Prop := fun A a q B =>
  ∃ (g : JFrame) (mk : MethodId) (t : State) (L : List Loc) (E : String) (ce : Cell), B.U.heap = t.heap ∧ B.U.vm = t.vm ∧ XC E (A.U.calling g mk a) t ∧ t.heap[q]? = some ce ∧ ce.vm = .none ∧ A.U.vm.findClass E = some ce.cls ∧ B.locs = A.locs ++ L ∧ (∀ z ∈ L, free z.base) ∧ B.cells = A.cells + mc ∧ B.slots = A.slots + ms
def vx_Back (l : Launch) (R : Room) (p : Program) (e : Env) (below : List Frame) (s : State) (sargs : Array Value) (y : MethodName) (len W9 : Nat)
    (Pre : Pt → Array Value → Prop) (Post : Pt → Array Value → Option Value → Pt → Prop) (PostX : Pt → Array Value → Addr → Pt → Prop) : Prop :=
  ∀ (m : MethodId) (meth : Method) (c : Code) (A : Pt) (g : JFrame) (ig : Instr) (mk : MethodId) (a : Array Value),
    Stand p l e R s m sargs below meth c A.U A.locs A.cells A.slots → g.method = m → g.locals.size = c.maxLocals → decode c.code g.pc = .ok (ig, len) →
    2 * g.monitorRoom + (g.stack.map fun v => v.category).sum ≤ W9 → A.U.methodNamed? y = some mk → Pre A a →
    (∃ (v : Option Value) (B : Pt), Stand p l e R s m sargs below meth c B.U B.locs B.cells B.slots ∧ Post A a v B ∧
      Steps p.tables e below (doInvoke e (A.U.setTop g) [] mk a).1 (B.U.setTop { g with pc := g.pc + len, stack := v.toList ++ g.stack })) ∨
    (∃ (q : Addr) (B : Pt), Stand p l e R s m sargs below meth c B.U B.locs B.cells B.slots ∧ PostX A a q B ∧
      Steps p.tables e below (doInvoke e (A.U.setTop g) [] mk a).1 ((B.U.setTop g).pushFrame (.throwing q)))
section Payer
variable {l : Launch} {R : Room} {p : Program} {e : Env} {below : List Frame} {s : State} {sargs : Array Value} {y : MethodName} {len W9 : Nat}
theorem vx_back {ws : List Cond} {rm : Room} {Pc : Array Value → State → Prop} {Qc : Array Value → State → Outcome → State → Prop} {XC : String → State → State → Prop} {mc ms : Nat} {free : Addr → Prop} {bytes : ByteArray} {maxL : Nat} {ret : Option FieldType}
    (hM : vx_Met l y ws rm Pc Qc XC mc ms free) (hblind : FrameBlind Pc) (hrc : rm.cells = mc) (hrs : rm.slots = ms)
    (hframes : rm.frames + 1 ≤ R.frames) (hlocals : W9 + (maxL + 11) + rm.locals ≤ R.locals)
    (hws : ∀ w ∈ ws, ∀ a' U, s.WarmedH U.vm → w.before a' U = true) (hcode : Cond.code y bytes maxL ret ∈ ws) (hinit : ∀ a' U, s.WarmedH U.vm → (Cond.initialized y.cls).before a' U = true) :
    vx_Back l R p e below s sargs y len W9 (PreOf R mc ms Pc) (PostOf Qc mc ms free) (vx_Post XC mc ms free) := by
  intro m meth c A g ig mk a X hg hsize hdg hW hn hp
  have h1 : (headSpec ws rm).pre.before a A.U = true := atoms_intro fun w hw => hws w hw _ _ X.warmed
  have h2 : (Cond.code y bytes maxL ret).before a A.U = true := hws _ hcode _ _ X.warmed
  have h3 : (Cond.initialized y.cls).before a A.U = true := hinit _ _ X.warmed
  have h4 : A.cells + (headSpec ws rm).room.cells ≤ R.cells := by rw [show (headSpec ws rm).room.cells = mc from hrc]; exact hp.1
  have h5 : A.slots + (headSpec ws rm).room.slots ≤ R.slots := by rw [show (headSpec ws rm).room.slots = ms from hrs]; exact hp.2.1
  have hPc : Pc a (A.U.calling g mk a) := hblind _ _ _ _ hp.2.2
  obtain ⟨U, Ls, c0, s0⟩ := A
  dsimp only [Pt.U, Pt.locs, Pt.cells, Pt.slots] at h1 h2 h3 h4 h5 X hn hPc ⊢
  obtain ⟨methY, cY, hmY, hcY, -, hlY, -, -, -, -⟩ := Cond.code_spec hn h2
  obtain ⟨kY, hkY, -⟩ := className_of_methodNamed hn
  have hinitY : kY.init = .initialized := Cond.initialized_spec (findClass_of_methodNamed hn) hkY h3
  have h : At U g.method c below := by rw [hg]; exact X.here
  have hlocals9 : W9 + (maxL + 11) + (headSpec ws rm).room.locals ≤ R.locals := hlocals
  have happ : (headSpec ws rm).appliesLoose y e.platform (U.calling g mk a) = true :=
    Spec.appliesLoose_calling (g := g) h hdg hn hkY hinitY
      (X.room_calling (g := g) (R' := (headSpec ws rm).room) hsize hmY hcY hframes (by rw [hlY]; omega) h4 h5) h1
  obtain ⟨mid, hmid⟩ := h.above
  have hfr : (U.setTop g).frames = (.java g :: mid) ++ below := by rw [State.frames_setTop' g h.top, hmid]; rfl
  obtain ⟨o, s₂, hsteps, -, hend, hq⟩ := Steps.callFree hM p X.admits X.cas X.clock (acts := []) hfr happ hPc trivial
  have hq' : vx_Q Qc XC mc ms free a (U.calling g mk a) o s₂ := hq
  rw [State.frames_setTop' g h.top] at hend
  obtain ⟨g₀, hg0⟩ := Option.isSome_iff_exists.mp h.top
  obtain ⟨r, hr⟩ := State.topJava?_eq_some.mp hg0
  have hr' : (({ U with heap := s₂.heap, slotsUsed := s₂.slotsUsed } : State).setVm s₂.vm).frames = .java g₀ :: r := hr
  rcases hq' with ⟨hqc, L, hfe, hL⟩ | ⟨q, rfl, E, ce, L, hx, hce, hcv, hcl, hW₂, hsm, hL⟩
  · obtain ⟨⟨v, rfl⟩, hW₂, e2, q2, q3, q4, q5, q6⟩ := id hfe
    have e3 : s₂ = ({ (U.calling g mk a).setFrames s₂.frames with heap := s₂.heap, slotsUsed := s₂.slotsUsed } : State).setVm s₂.vm := by
      have : s₂ = ({ s₂ with vm := (U.calling g mk a).vm } : State).setVm s₂.vm := rfl
      rw [e2] at this
      exact this
    obtain ⟨c₂, i₂, len₂, hc₂, hd₂, hf₂⟩ := hend
    have hW' : U.WarmedH s₂.vm := hW₂
    have hcc : c₂ = c := by
      have h1 : s₂.code? g.method = U.code? g.method := by
        rw [State.code?_eq, State.code?_eq, hW'.alike.method?]
      exact Option.some.inj (hc₂.symm.trans (h1.trans h.code))
    subst hcc
    have hlen : len₂ = len := by rw [hdg] at hd₂; cases hd₂; rfl
    subst hlen
    have hs₂ : s₂ = (({ U with heap := s₂.heap, slotsUsed := s₂.slotsUsed } : State).setVm s₂.vm).setTop { g with pc := g.pc + len₂, stack := v.toList ++ g.stack } := by
      refine e3.trans ?_
      rw [hf₂, State.calling_eq h.top, State.setFrames_setFrames, State.setTop_of_frames _ hr', hr]
      rfl
    have hsame : U.sameButNew ({ U with heap := s₂.heap, slotsUsed := s₂.slotsUsed } : State) L mc ms := by
      refine ⟨?_, q2, q3, q4, q5, q6⟩
      obtain ⟨t, ht, -⟩ := State.frames_cons hr
      show ({ U with heap := s₂.heap, slotsUsed := s₂.slotsUsed } : State) = { U.setFrames U.frames with heap := s₂.heap, slotsUsed := s₂.slotsUsed }
      rw [State.setFrames_self ht]
    subst hg
    refine Or.inl ⟨v, ⟨(({ U with heap := s₂.heap, slotsUsed := s₂.slotsUsed } : State).setVm s₂.vm), Ls ++ L, c0 + mc, s0 + ms⟩,
      ⟨X.admits, X.cas, X.clock, X.frames, X.room, X.hears, X.method, X.code, (X.here.setHeapUsed s₂.heap s₂.slotsUsed).setVm hW'.alike, X.tail, State.WarmedH.trans X.warmed hW', X.limits, X.bytes, X.same.trans (hsame.setVm s.vm)⟩,
      ⟨g, mk, s₂, L, rfl, rfl, hqc, rfl, hL, rfl, rfl⟩, ?_⟩
    show Steps p.tables e below _ ((({ U with heap := s₂.heap, slotsUsed := s₂.slotsUsed } : State).setVm s₂.vm).setTop { g with pc := g.pc + len₂, stack := v.toList ++ g.stack })
    rw [← hs₂]
    exact hsteps
  · obtain ⟨e2, q2, q3, q4, q5, q6⟩ := id hsm
    have e3 : s₂ = ({ (U.calling g mk a).setFrames s₂.frames with heap := s₂.heap, slotsUsed := s₂.slotsUsed } : State).setVm s₂.vm := by
      have : s₂ = ({ s₂ with vm := (U.calling g mk a).vm } : State).setVm s₂.vm := rfl
      rw [e2] at this
      exact this
    have hf₂ : s₂.frames = .throwing q :: .java g :: U.frames.tail := hend
    have hW' : U.WarmedH s₂.vm := hW₂
    have hs₂ : s₂ = ((({ U with heap := s₂.heap, slotsUsed := s₂.slotsUsed } : State).setVm s₂.vm).setTop g).pushFrame (.throwing q) := by
      refine e3.trans ?_
      rw [hf₂, State.calling_eq h.top, State.setFrames_setFrames, State.pushFrame, State.frames_setTop _ hr', State.setTop_of_frames _ hr', State.setFrames_setFrames, hr]
      rfl
    have hsame : U.sameButNew ({ U with heap := s₂.heap, slotsUsed := s₂.slotsUsed } : State) L mc ms := by
      refine ⟨?_, q2, q3, q4, q5, q6⟩
      obtain ⟨t, ht, -⟩ := State.frames_cons hr
      show ({ U with heap := s₂.heap, slotsUsed := s₂.slotsUsed } : State) = { U.setFrames U.frames with heap := s₂.heap, slotsUsed := s₂.slotsUsed }
      rw [State.setFrames_self ht]
    subst hg
    refine Or.inr ⟨q, ⟨(({ U with heap := s₂.heap, slotsUsed := s₂.slotsUsed } : State).setVm s₂.vm), Ls ++ L, c0 + mc, s0 + ms⟩,
      ⟨X.admits, X.cas, X.clock, X.frames, X.room, X.hears, X.method, X.code, (X.here.setHeapUsed s₂.heap s₂.slotsUsed).setVm hW'.alike, X.tail, State.WarmedH.trans X.warmed hW', X.limits, X.bytes, X.same.trans (hsame.setVm s.vm)⟩,
      ⟨g, mk, s₂, L, E, ce, rfl, rfl, hx, hce, hcv, hcl, rfl, hL, rfl, rfl⟩, ?_⟩
    show Steps p.tables e below _ (((({ U with heap := s₂.heap, slotsUsed := s₂.slotsUsed } : State).setVm s₂.vm).setTop g).pushFrame (.throwing q))
    rw [← hs₂]
    exact hsteps
end Payer
section Calls
variable {p : Program} {l : Launch} {e : Env} {R : Room} {s : State} {m : MethodId} {args : Array Value} {below : List Frame} {meth : Method} {c : Code} {T : State} {locs : List Loc} {cells slots : Nat}
theorem vx_callV (X : Stand p l e R s m args below meth c T locs cells slots) (hexec : p.tables.exec = Jvm.exec) {own C : String} {index : Nat} {y : MethodName} {bytes : ByteArray} {maxL : Nat} {ret : Option FieldType}
    (hown : s.vm.findClass own = some m.cls) (hlink : (Cond.methodLink own index y).before args s = true) (hinst : (Cond.instanceMethod y).before args s = true) (hsel : (Cond.selects C y y).before args s = true)
    (hcode : (Cond.code y bytes maxL ret).before args s = true) (hy : y.cls ≠ "java/lang/invoke/MethodHandle" ∧ y.cls ≠ "java/lang/invoke/VarHandle")
    {W9 : Nat} {Pre : Pt → Array Value → Prop} {Post : Pt → Array Value → Option Value → Pt → Prop} {PostX : Pt → Array Value → Addr → Pt → Prop} (hK : vx_Back l R p e below s args y 3 W9 Pre Post PostX)
    {b : Addr} {cellB : Cell} (hcell : T.heap[b]? = some cellB) (hobj : cellB.vm.isStatics = false) (hcls : s.vm.findClass C = some cellB.cls)
    {g : JFrame} (hg : g.method = m) (hsize : g.locals.size = c.maxLocals) {argsL rest : List Value} (hlen : ∀ sig, parseMethodDescriptor y.desc = some sig → argsL.length = sig.parameters.length)
    (hstack : g.stack = argsL.reverse ++ .ref b :: rest) (hW : 2 * g.monitorRoom + (rest.map fun v => v.category).sum ≤ W9) (hdg : decode c.code g.pc = .ok (.invokevirtual index, 3))
    (hpre : ∀ vm₁, s.WarmedH vm₁ → Pre ⟨T.setVm vm₁, locs, cells, slots⟩ (Value.ref b :: argsL).toArray) :
    (∃ (v : Option Value) (vm₁ : Vm) (B : Pt), s.WarmedH vm₁ ∧ Stand p l e R s m args below meth c B.U B.locs B.cells B.slots ∧ Post ⟨T.setVm vm₁, locs, cells, slots⟩ (Value.ref b :: argsL).toArray v B ∧
      ∀ target, Steps p.tables e below (B.U.setTop { g with pc := g.pc + 3, stack := v.toList ++ rest }) target → Steps p.tables e below (T.setTop g) target) ∨
    (∃ (q : Addr) (vm₁ : Vm) (B : Pt), s.WarmedH vm₁ ∧ Stand p l e R s m args below meth c B.U B.locs B.cells B.slots ∧ PostX ⟨T.setVm vm₁, locs, cells, slots⟩ (Value.ref b :: argsL).toArray q B ∧
      Steps p.tables e below (T.setTop g) ((B.U.setTop { g with stack := rest }).pushFrame (.throwing q))) := by
  obtain ⟨mk, methM, hnamed, hmethM, hstM, habM⟩ := Cond.instanceMethod_spec hinst
  obtain ⟨methM', cM, hmethM', -, -, -, -, -, -, hsigM⟩ := Cond.code_spec hnamed hcode
  cases hmethM.symm.trans hmethM'
  obtain ⟨c2, r2, m2, q1, q2, q3, q4, kP, hkP, hkPi⟩ := Cond.selects_spec hsel
  cases hcls.symm.trans q1
  cases (State.methodFound?_of_named hnamed hy).symm.trans q2
  cases hnamed.symm.trans q3
  have hselP : selectMethod e.platform s.vm cellB.cls mk = .method mk := by rw [Launch.admits_selectMethod X.admits]; exact q4
  obtain ⟨vm₁, X₁, hstep₁⟩ := X.invokevirtual hexec hown hlink hnamed hmethM hstM hkP hkPi hy (a := b) (cell := cellB) hcell
    (fun z h => by rw [h] at hobj; cases hobj) hselP hmethM habM hkP hkPi (g := g) hg (argsL := argsL) (rest := rest) (hlen _ hsigM) hstack hdg
  rcases hK m meth c ⟨T.setVm vm₁, locs, cells, slots⟩ { g with stack := rest } (.invokevirtual index) mk (Value.ref b :: argsL).toArray X₁ hg hsize hdg hW (X₁.named hnamed) (hpre vm₁ X₁.warmed) with ⟨v, B, X', hpost, hsteps⟩ | ⟨q, B, X', hpost, hsteps⟩
  · exact Or.inl ⟨v, vm₁, B, X₁.warmed, X', hpost, fun target h => hstep₁ _ fun acts => by rw [doInvoke_state]; exact hsteps.trans h⟩
  · exact Or.inr ⟨q, vm₁, B, X₁.warmed, X', hpost, hstep₁ _ fun acts => by rw [doInvoke_state]; exact hsteps⟩
theorem vx_callS (X : Stand p l e R s m args below meth c T locs cells slots) (hexec : p.tables.exec = Jvm.exec) {own : String} {index : Nat} {y : MethodName} {bytes : ByteArray} {maxL : Nat} {ret : Option FieldType}
    (hown : s.vm.findClass own = some m.cls) (hlink : (Cond.methodLink own index y).before args s = true) (hstat : (Cond.static y).before args s = true) (hinit : (Cond.initialized y.cls).before args s = true)
    (hcode : (Cond.code y bytes maxL ret).before args s = true) (hy : y.cls ≠ "java/lang/invoke/MethodHandle" ∧ y.cls ≠ "java/lang/invoke/VarHandle")
    {W9 : Nat} {Pre : Pt → Array Value → Prop} {Post : Pt → Array Value → Option Value → Pt → Prop} {PostX : Pt → Array Value → Addr → Pt → Prop} (hK : vx_Back l R p e below s args y 3 W9 Pre Post PostX)
    {g : JFrame} (hg : g.method = m) (hsize : g.locals.size = c.maxLocals) {argsL rest : List Value} (hlen : ∀ sig, parseMethodDescriptor y.desc = some sig → argsL.length = sig.parameters.length)
    (hstack : g.stack = argsL.reverse ++ rest) (hW : 2 * g.monitorRoom + (rest.map fun v => v.category).sum ≤ W9) (hdg : decode c.code g.pc = .ok (.invokestatic index, 3))
    (hpre : ∀ vm₁, s.WarmedH vm₁ → Pre ⟨T.setVm vm₁, locs, cells, slots⟩ argsL.toArray) :
    (∃ (v : Option Value) (vm₁ : Vm) (B : Pt), s.WarmedH vm₁ ∧ Stand p l e R s m args below meth c B.U B.locs B.cells B.slots ∧ Post ⟨T.setVm vm₁, locs, cells, slots⟩ argsL.toArray v B ∧
      ∀ target, Steps p.tables e below (B.U.setTop { g with pc := g.pc + 3, stack := v.toList ++ rest }) target → Steps p.tables e below (T.setTop g) target) ∨
    (∃ (q : Addr) (vm₁ : Vm) (B : Pt), s.WarmedH vm₁ ∧ Stand p l e R s m args below meth c B.U B.locs B.cells B.slots ∧ PostX ⟨T.setVm vm₁, locs, cells, slots⟩ argsL.toArray q B ∧
      Steps p.tables e below (T.setTop g) ((B.U.setTop { g with stack := rest }).pushFrame (.throwing q))) := by
  obtain ⟨mk, hnamed⟩ := Cond.code_named hcode
  obtain ⟨methM, cM, hmethM, -, -, -, -, -, -, hsigM⟩ := Cond.code_spec hnamed hcode
  have hstatic : methM.isStatic = true := Cond.static_spec hnamed hmethM hstat
  obtain ⟨kP, hkP, -⟩ := className_of_methodNamed hnamed
  have hinitP : kP.init = .initialized := Cond.initialized_spec (findClass_of_methodNamed hnamed) hkP hinit
  obtain ⟨vm₁, X₁, hstep₁⟩ := X.invokestatic hexec hown hlink hnamed hmethM hstatic hkP hinitP hy (g := g) hg (argsL := argsL) (rest := rest) (hlen _ hsigM) hstack hdg
  rcases hK m meth c ⟨T.setVm vm₁, locs, cells, slots⟩ { g with stack := rest } (.invokestatic index) mk argsL.toArray X₁ hg hsize hdg hW (X₁.named hnamed) (hpre vm₁ X₁.warmed) with ⟨v, B, X', hpost, hsteps⟩ | ⟨q, B, X', hpost, hsteps⟩
  · exact Or.inl ⟨v, vm₁, B, X₁.warmed, X', hpost, fun target h => hstep₁ _ fun acts => by rw [doInvoke_state]; exact hsteps.trans h⟩
  · exact Or.inr ⟨q, vm₁, B, X₁.warmed, X', hpost, hstep₁ _ fun acts => by rw [doInvoke_state]; exact hsteps⟩
end Calls
theorem vx_cls {s : State} {T : State} {vm₁ : Vm} {E : String} {k : ClassId} (hW : s.WarmedH vm₁) (h : (T.setVm vm₁).vm.findClass E = some k) : s.vm.findClass E = some k := by
  have h1 : vm₁.findClass E = some k := h
  rw [hW.alike.findClass] at h1
  exact h1
/-- the method's frame g, with q thrown over it -/
def vx_W (p : Program) (l : Launch) (e : Env) (R : Room) (s : State) (m : MethodId) (args : Array Value) (below : List Frame) (meth : Method) (c : Code) (H : Heap) (locs : List Loc) (cells slots : Nat) (Q : State → Prop) (g : JFrame) (q : Addr) : Prop :=
  ∀ T : State, T.heap = H → Stand p l e R s m args below meth c T locs cells slots → ∃ t, Steps p.tables e below ((T.setTop g).pushFrame (.throwing q)) t ∧ Q t
def vx_Run (p : Program) (l : Launch) (e : Env) (R : Room) (s : State) (m : MethodId) (args : Array Value) (below : List Frame) (meth : Method) (c : Code) (H : Heap) (locs : List Loc) (cells slots mc ms : Nat) (g : JFrame) (rest : List Value) (Qa : State → Outcome → State → Prop) (XC : String → State → State → Prop) (free : Addr → Prop) : Prop :=
  ∀ T : State, T.heap = H → Stand p l e R s m args below meth c T locs cells slots →
    (∃ (v : Option Value) (st₀ t T' : State) (L : List Loc), st₀.heap = H ∧ Stand p l e R s m args below meth c T' (locs ++ L) (cells + mc) (slots + ms) ∧ (∀ q ∈ L, free q.base) ∧ T'.heap = t.heap ∧ T'.vm = t.vm ∧ Qa st₀ (.returned v) t ∧
      Goes p e below T g T' { g with pc := g.pc + 3, stack := v.toList ++ rest }) ∨
    (∃ (q : Addr) (st₀ t T' : State) (L : List Loc) (E : String) (ce : Cell), st₀.heap = H ∧ Stand p l e R s m args below meth c T' (locs ++ L) (cells + mc) (slots + ms) ∧ (∀ z ∈ L, free z.base) ∧ T'.heap = t.heap ∧ T'.vm = t.vm ∧ XC E st₀ t ∧ t.heap[q]? = some ce ∧ ce.vm = .none ∧ s.vm.findClass E = some ce.cls ∧
      Steps p.tables e below (T.setTop g) ((T'.setTop { g with stack := rest }).pushFrame (.throwing q)))
def vx_X {S : Type} (px : S → Prop) (B : String → S → State → Prop) (A : Nat → Prop) : String → State → State → Prop := fun E st t => ∃ u : S, px u ∧ B E u t ∧ va_F A st t
section Runs
variable {p : Program} {l : Launch} {e : Env} {R : Room} {s : State} {m : MethodId} {args : Array Value} {below : List Frame} {meth : Method} {c : Code} {H : Heap} {locs : List Loc} {cells slots : Nat}
variable {y : MethodName} {bytes cc : ByteArray} {maxL nL mc ms n index : Nat} {ret : Option FieldType} {ws : List Cond} {rm : Room} {Pc : Array Value → State → Prop} {Qc : Array Value → State → Outcome → State → Prop} {XC : String → State → State → Prop} {free : Addr → Prop} {Ts : List Cond} {own C : String} {b : Addr} {As rest : List Value} {g : JFrame}
theorem vx_callBack (cb : CallB R s args own index y bytes maxL ret ws rm mc ms n) (hM : vx_Met l y ws rm Pc Qc XC mc ms free) (hbl : FrameBlind Pc) : vx_Back l R p e below s args y 3 8 (PreOf R mc ms Pc) (PostOf Qc mc ms free) (vx_Post XC mc ms free) := by
  obtain ⟨hrc, hrs, hfr, hlo, hws, hcw, -, hini, -⟩ := cb
  exact vx_back (bytes := bytes) (maxL := maxL) (ret := ret) hM hbl hrc hrs hfr hlo hws hcw (fun a' U hW => word_at hW (Or.inl (by first | rfl | simp [Cond.onTables, Cond.keeps, Cond.steady])) hini)
theorem vx_runV (S : CallFix p m c cc nL s args Ts own) (hM : vx_Met l y ws rm Pc Qc XC mc ms free) (cw : CallW R s args own C index y bytes maxL ret ws rm mc ms n) (hp : PreV s H C b Pc As)
    (hg : g.method = m) (hn : As.length = n) (hsize : g.locals.size = nL) (hstack : g.stack = As.reverse ++ .ref b :: rest) (hW : 2 * g.monitorRoom + (rest.map fun v => v.category).sum ≤ 8) (hdg : decode cc g.pc = .ok (.invokevirtual index, 3)) (hf : cells + mc ≤ R.cells ∧ slots + ms ≤ R.slots) :
    vx_Run p l e R s m args below meth c H locs cells slots mc ms g rest (Qc (Value.ref b :: As).toArray) XC free := by
  have hK : vx_Back l R p e below s args y 3 8 (PreOf R mc ms Pc) (PostOf Qc mc ms free) (vx_Post XC mc ms free) := vx_callBack cw.1 hM hp.1
  obtain ⟨⟨-, -, -, -, -, -, hcode, -, hy, hlen, hl⟩, hin, hse⟩ := cw
  obtain ⟨hx, hb, hml, ho, -⟩ := S
  obtain ⟨-, ⟨cellB, hcB, hoB, hclB⟩, hPc⟩ := hp
  intro T hT X
  rcases vx_callV X hx (C := C) (bytes := bytes) (maxL := maxL) (ret := ret) ho hl hin hse hcode hy hK (by rw [hT]; exact hcB) hoB hclB hg (hsize.trans hml.symm) (argsL := As) (rest := rest) (fun sig h => hn.trans (hlen sig h)) hstack hW (by rw [hb]; exact hdg)
    (fun vm₁ hW₁ => ⟨hf.1, hf.2, hPc (T.setVm vm₁) hT hW₁⟩) with ⟨v, vm₁, ⟨U', l2, c2, s2⟩, hW₁, X', ⟨g', mk, t, L, e1, e2, hq, h1, hL, h2, h3⟩, st⟩ | ⟨q, vm₁, ⟨U', l2, c2, s2⟩, hW₁, X', ⟨g', mk, t, L, E, ce, e1, e2, hq, hce, hcv, hcl, h1, hL, h2, h3⟩, st⟩
  · dsimp only [Pt.U, Pt.locs, Pt.cells, Pt.slots] at X' e1 e2 h1 h2 h3 st
    subst h1; subst h2; subst h3
    exact Or.inl ⟨v, (T.setVm vm₁).calling g' mk (Value.ref b :: As).toArray, t, U', L, hT, X', hL, e1, e2, hq, st⟩
  · dsimp only [Pt.U, Pt.locs, Pt.cells, Pt.slots] at X' e1 e2 h1 h2 h3 st hcl
    subst h1; subst h2; subst h3
    exact Or.inr ⟨q, (T.setVm vm₁).calling g' mk (Value.ref b :: As).toArray, t, U', L, E, ce, hT, X', hL, e1, e2, hq, hce, hcv, vx_cls hW₁ hcl, st⟩
theorem vx_runS (S : CallFix p m c cc nL s args Ts own) (hM : vx_Met l y ws rm Pc Qc XC mc ms free) (cw : CallB R s args own index y bytes maxL ret ws rm mc ms n ∧ (Cond.static y).before args s = true) (hp : PreS s H Pc As)
    (hg : g.method = m) (hn : As.length = n) (hsize : g.locals.size = nL) (hstack : g.stack = As.reverse ++ rest) (hW : 2 * g.monitorRoom + (rest.map fun v => v.category).sum ≤ 8) (hdg : decode cc g.pc = .ok (.invokestatic index, 3)) (hf : cells + mc ≤ R.cells ∧ slots + ms ≤ R.slots) :
    vx_Run p l e R s m args below meth c H locs cells slots mc ms g rest (Qc As.toArray) XC free := by
  have hK : vx_Back l R p e below s args y 3 8 (PreOf R mc ms Pc) (PostOf Qc mc ms free) (vx_Post XC mc ms free) := vx_callBack cw.1 hM hp.1
  obtain ⟨⟨-, -, -, -, -, -, hcode, hini, hy, hlen, hl⟩, hstt⟩ := cw
  obtain ⟨hx, hb, hml, ho, -⟩ := S
  intro T hT X
  rcases vx_callS X hx (bytes := bytes) (maxL := maxL) (ret := ret) ho hl hstt hini hcode hy hK hg (hsize.trans hml.symm) (argsL := As) (rest := rest) (fun sig h => hn.trans (hlen sig h)) hstack hW (by rw [hb]; exact hdg)
    (fun vm₁ hW₁ => ⟨hf.1, hf.2, hp.2 (T.setVm vm₁) hT hW₁⟩) with ⟨v, vm₁, ⟨U', l2, c2, s2⟩, hW₁, X', ⟨g', mk, t, L, e1, e2, hq, h1, hL, h2, h3⟩, st⟩ | ⟨q, vm₁, ⟨U', l2, c2, s2⟩, hW₁, X', ⟨g', mk, t, L, E, ce, e1, e2, hq, hce, hcv, hcl, h1, hL, h2, h3⟩, st⟩
  · dsimp only [Pt.U, Pt.locs, Pt.cells, Pt.slots] at X' e1 e2 h1 h2 h3 st
    subst h1; subst h2; subst h3
    exact Or.inl ⟨v, (T.setVm vm₁).calling g' mk As.toArray, t, U', L, hT, X', hL, e1, e2, hq, st⟩
  · dsimp only [Pt.U, Pt.locs, Pt.cells, Pt.slots] at X' e1 e2 h1 h2 h3 st hcl
    subst h1; subst h2; subst h3
    exact Or.inr ⟨q, (T.setVm vm₁).calling g' mk As.toArray, t, U', L, E, ce, hT, X', hL, e1, e2, hq, hce, hcv, vx_cls hW₁ hcl, st⟩
end Runs
section Rows
variable {p : Program} {l : Launch} {e : Env} {R : Room} {s : State} {m : MethodId} {args : Array Value} {below : List Frame} {meth : Method} {c : Code} {H : Heap} {locs : List Loc} {cells slots : Nat} {Q : State → Prop}
variable {mc ms : Nat} {free : Addr → Prop} {A0 A1 : Nat → Prop} {H0 : Heap} {a : Array Value} {pc : Nat} {ls : Array Slot} {st0 rest : List Value}
theorem vx_keep {st₀ t T' : State} {L : List Loc} (h0 : st₀.heap = H) (e1 : T'.heap = t.heap) (hS : va_S A0 H0 H locs) (hA : ∀ q, q < H.size → A1 q → A0 q) (hf : ∀ q, free q → A0 q) (hL : ∀ q ∈ L, free q.base) (hF : va_F A1 st₀ t) :
    H.size ≤ T'.heap.size ∧ (∀ q : Nat, q < H.size → ¬ A1 q → T'.heap[q]? = H[q]?) ∧ va_S A0 H0 T'.heap (locs ++ L) := by
  obtain ⟨hz, hk⟩ := hF
  rw [h0] at hz hk
  exact ⟨by rw [e1]; exact hz, fun q h1 h2 => by rw [e1]; exact hk q h1 h2,
    ⟨Nat.le_trans hS.1 (by rw [e1]; exact hz), fun q h1 h2 => by rw [e1, hk q (Nat.lt_of_lt_of_le h1 hS.1) (fun z => h2 (hA q (Nat.lt_of_lt_of_le h1 hS.1) z))]; exact hS.2.1 q h1 h2, fun q hq => by
      rcases List.mem_append.mp hq with h | h
      · exact hS.2.2 q h
      · exact hf _ (hL q h)⟩⟩
theorem vx_calli {S SX : Type} {post : Int32 → S → Prop} {px : SX → Prop} {B : S → State → Prop} {BX : String → SX → State → Prop} {AX : Nat → Prop} (hr : vx_Run p l e R s m args below meth c H locs cells slots mc ms (F0 m pc ls st0) rest (va_Qi post B A1 a) (vx_X px BX AX) free) (hS : va_S A0 H0 H locs) (hA : ∀ q, q < H.size → A1 q → A0 q) (hf : ∀ q, free q → A0 q) (hAX : ∀ q, q < H.size → AX q → A0 q)
    (kx : ∀ (E : String) (ce : Cell) (q9 : Addr) (u : SX) (t : State) (H1 : Heap) (locs1 : List Loc), t.heap = H1 → s.vm.Alike t.vm → px u → BX E u t → H.size ≤ H1.size → (∀ q : Nat, q < H.size → ¬ AX q → H1[q]? = H[q]?) → va_S A0 H0 H1 locs1 → H1[q9]? = some ce → ce.vm = .none → s.vm.findClass E = some ce.cls → vx_W p l e R s m args below meth c H1 locs1 (cells + mc) (slots + ms) Q (F0 m pc ls rest) q9)
    (kk : ∀ (r : Int32) (u : S) (t : State) (H1 : Heap) (locs1 : List Loc), t.heap = H1 → s.vm.Alike t.vm → post r u → B u t → H.size ≤ H1.size → (∀ q : Nat, q < H.size → ¬ A1 q → H1[q]? = H[q]?) → va_S A0 H0 H1 locs1 → W p l e R s m args below meth c H1 locs1 (cells + mc) (slots + ms) Q (F0 m (pc + 3) ls (.int r :: rest))) : W p l e R s m args below meth c H locs cells slots Q (F0 m pc ls st0) := by
  intro T hT X
  rcases hr T hT X with ⟨v, st₀, t, T', L, h0, X', hL, e1, e2, ⟨⟨r, u, hv, hp, hb⟩, hF⟩, st⟩ | ⟨q, st₀, t, T', L, E, ce, h0, X', hL, e1, e2, ⟨u, hp, hb, hF⟩, hce, hcv, hcl, st⟩
  · cases hv
    obtain ⟨k1, k2, k3⟩ := vx_keep h0 e1 hS hA hf hL hF
    obtain ⟨t2, a1, b1⟩ := kk r u t T'.heap (locs ++ L) e1.symm (by rw [← e2]; exact X'.warmed.alike) hp hb k1 k2 k3 T' rfl X'
    exact ⟨t2, st t2 a1, b1⟩
  · obtain ⟨k1, k2, k3⟩ := vx_keep h0 e1 hS hAX hf hL hF
    obtain ⟨t2, a1, b1⟩ := kx E ce q u t T'.heap (locs ++ L) e1.symm (by rw [← e2]; exact X'.warmed.alike) hp hb k1 k2 k3 (by rw [e1]; exact hce) hcv hcl T' rfl X'
    exact ⟨t2, st.trans a1, b1⟩
theorem vx_calll {S SX : Type} {post : Int64 → S → Prop} {px : SX → Prop} {B : S → State → Prop} {BX : String → SX → State → Prop} {AX : Nat → Prop} (hr : vx_Run p l e R s m args below meth c H locs cells slots mc ms (F0 m pc ls st0) rest (va_Ql post B A1 a) (vx_X px BX AX) free) (hS : va_S A0 H0 H locs) (hA : ∀ q, q < H.size → A1 q → A0 q) (hf : ∀ q, free q → A0 q) (hAX : ∀ q, q < H.size → AX q → A0 q)
    (kx : ∀ (E : String) (ce : Cell) (q9 : Addr) (u : SX) (t : State) (H1 : Heap) (locs1 : List Loc), t.heap = H1 → s.vm.Alike t.vm → px u → BX E u t → H.size ≤ H1.size → (∀ q : Nat, q < H.size → ¬ AX q → H1[q]? = H[q]?) → va_S A0 H0 H1 locs1 → H1[q9]? = some ce → ce.vm = .none → s.vm.findClass E = some ce.cls → vx_W p l e R s m args below meth c H1 locs1 (cells + mc) (slots + ms) Q (F0 m pc ls rest) q9)
    (kk : ∀ (r : Int64) (u : S) (t : State) (H1 : Heap) (locs1 : List Loc), t.heap = H1 → s.vm.Alike t.vm → post r u → B u t → H.size ≤ H1.size → (∀ q : Nat, q < H.size → ¬ A1 q → H1[q]? = H[q]?) → va_S A0 H0 H1 locs1 → W p l e R s m args below meth c H1 locs1 (cells + mc) (slots + ms) Q (F0 m (pc + 3) ls (.long r :: rest))) : W p l e R s m args below meth c H locs cells slots Q (F0 m pc ls st0) := by
  intro T hT X
  rcases hr T hT X with ⟨v, st₀, t, T', L, h0, X', hL, e1, e2, ⟨⟨r, u, hv, hp, hb⟩, hF⟩, st⟩ | ⟨q, st₀, t, T', L, E, ce, h0, X', hL, e1, e2, ⟨u, hp, hb, hF⟩, hce, hcv, hcl, st⟩
  · cases hv
    obtain ⟨k1, k2, k3⟩ := vx_keep h0 e1 hS hA hf hL hF
    obtain ⟨t2, a1, b1⟩ := kk r u t T'.heap (locs ++ L) e1.symm (by rw [← e2]; exact X'.warmed.alike) hp hb k1 k2 k3 T' rfl X'
    exact ⟨t2, st t2 a1, b1⟩
  · obtain ⟨k1, k2, k3⟩ := vx_keep h0 e1 hS hAX hf hL hF
    obtain ⟨t2, a1, b1⟩ := kx E ce q u t T'.heap (locs ++ L) e1.symm (by rw [← e2]; exact X'.warmed.alike) hp hb k1 k2 k3 (by rw [e1]; exact hce) hcv hcl T' rfl X'
    exact ⟨t2, st.trans a1, b1⟩
theorem vx_callf {S SX : Type} {post : UInt32 → S → Prop} {px : SX → Prop} {B : S → State → Prop} {BX : String → SX → State → Prop} {AX : Nat → Prop} (hr : vx_Run p l e R s m args below meth c H locs cells slots mc ms (F0 m pc ls st0) rest (va_Qf post B A1 a) (vx_X px BX AX) free) (hS : va_S A0 H0 H locs) (hA : ∀ q, q < H.size → A1 q → A0 q) (hf : ∀ q, free q → A0 q) (hAX : ∀ q, q < H.size → AX q → A0 q)
    (kx : ∀ (E : String) (ce : Cell) (q9 : Addr) (u : SX) (t : State) (H1 : Heap) (locs1 : List Loc), t.heap = H1 → s.vm.Alike t.vm → px u → BX E u t → H.size ≤ H1.size → (∀ q : Nat, q < H.size → ¬ AX q → H1[q]? = H[q]?) → va_S A0 H0 H1 locs1 → H1[q9]? = some ce → ce.vm = .none → s.vm.findClass E = some ce.cls → vx_W p l e R s m args below meth c H1 locs1 (cells + mc) (slots + ms) Q (F0 m pc ls rest) q9)
    (kk : ∀ (r : UInt32) (u : S) (t : State) (H1 : Heap) (locs1 : List Loc), t.heap = H1 → s.vm.Alike t.vm → post r u → B u t → H.size ≤ H1.size → (∀ q : Nat, q < H.size → ¬ A1 q → H1[q]? = H[q]?) → va_S A0 H0 H1 locs1 → W p l e R s m args below meth c H1 locs1 (cells + mc) (slots + ms) Q (F0 m (pc + 3) ls (.float r :: rest))) : W p l e R s m args below meth c H locs cells slots Q (F0 m pc ls st0) := by
  intro T hT X
  rcases hr T hT X with ⟨v, st₀, t, T', L, h0, X', hL, e1, e2, ⟨⟨r, u, hv, hp, hb⟩, hF⟩, st⟩ | ⟨q, st₀, t, T', L, E, ce, h0, X', hL, e1, e2, ⟨u, hp, hb, hF⟩, hce, hcv, hcl, st⟩
  · cases hv
    obtain ⟨k1, k2, k3⟩ := vx_keep h0 e1 hS hA hf hL hF
    obtain ⟨t2, a1, b1⟩ := kk r u t T'.heap (locs ++ L) e1.symm (by rw [← e2]; exact X'.warmed.alike) hp hb k1 k2 k3 T' rfl X'
    exact ⟨t2, st t2 a1, b1⟩
  · obtain ⟨k1, k2, k3⟩ := vx_keep h0 e1 hS hAX hf hL hF
    obtain ⟨t2, a1, b1⟩ := kx E ce q u t T'.heap (locs ++ L) e1.symm (by rw [← e2]; exact X'.warmed.alike) hp hb k1 k2 k3 (by rw [e1]; exact hce) hcv hcl T' rfl X'
    exact ⟨t2, st.trans a1, b1⟩
theorem vx_calld {S SX : Type} {post : UInt64 → S → Prop} {px : SX → Prop} {B : S → State → Prop} {BX : String → SX → State → Prop} {AX : Nat → Prop} (hr : vx_Run p l e R s m args below meth c H locs cells slots mc ms (F0 m pc ls st0) rest (va_Qd post B A1 a) (vx_X px BX AX) free) (hS : va_S A0 H0 H locs) (hA : ∀ q, q < H.size → A1 q → A0 q) (hf : ∀ q, free q → A0 q) (hAX : ∀ q, q < H.size → AX q → A0 q)
    (kx : ∀ (E : String) (ce : Cell) (q9 : Addr) (u : SX) (t : State) (H1 : Heap) (locs1 : List Loc), t.heap = H1 → s.vm.Alike t.vm → px u → BX E u t → H.size ≤ H1.size → (∀ q : Nat, q < H.size → ¬ AX q → H1[q]? = H[q]?) → va_S A0 H0 H1 locs1 → H1[q9]? = some ce → ce.vm = .none → s.vm.findClass E = some ce.cls → vx_W p l e R s m args below meth c H1 locs1 (cells + mc) (slots + ms) Q (F0 m pc ls rest) q9)
    (kk : ∀ (r : UInt64) (u : S) (t : State) (H1 : Heap) (locs1 : List Loc), t.heap = H1 → s.vm.Alike t.vm → post r u → B u t → H.size ≤ H1.size → (∀ q : Nat, q < H.size → ¬ A1 q → H1[q]? = H[q]?) → va_S A0 H0 H1 locs1 → W p l e R s m args below meth c H1 locs1 (cells + mc) (slots + ms) Q (F0 m (pc + 3) ls (.double r :: rest))) : W p l e R s m args below meth c H locs cells slots Q (F0 m pc ls st0) := by
  intro T hT X
  rcases hr T hT X with ⟨v, st₀, t, T', L, h0, X', hL, e1, e2, ⟨⟨r, u, hv, hp, hb⟩, hF⟩, st⟩ | ⟨q, st₀, t, T', L, E, ce, h0, X', hL, e1, e2, ⟨u, hp, hb, hF⟩, hce, hcv, hcl, st⟩
  · cases hv
    obtain ⟨k1, k2, k3⟩ := vx_keep h0 e1 hS hA hf hL hF
    obtain ⟨t2, a1, b1⟩ := kk r u t T'.heap (locs ++ L) e1.symm (by rw [← e2]; exact X'.warmed.alike) hp hb k1 k2 k3 T' rfl X'
    exact ⟨t2, st t2 a1, b1⟩
  · obtain ⟨k1, k2, k3⟩ := vx_keep h0 e1 hS hAX hf hL hF
    obtain ⟨t2, a1, b1⟩ := kx E ce q u t T'.heap (locs ++ L) e1.symm (by rw [← e2]; exact X'.warmed.alike) hp hb k1 k2 k3 (by rw [e1]; exact hce) hcv hcl T' rfl X'
    exact ⟨t2, st.trans a1, b1⟩
theorem vx_callv {S SX : Type} {post : S → Prop} {px : SX → Prop} {B : S → State → Prop} {BX : String → SX → State → Prop} {AX : Nat → Prop} (hr : vx_Run p l e R s m args below meth c H locs cells slots mc ms (F0 m pc ls st0) rest (va_Qv post B A1 a) (vx_X px BX AX) free) (hS : va_S A0 H0 H locs) (hA : ∀ q, q < H.size → A1 q → A0 q) (hf : ∀ q, free q → A0 q) (hAX : ∀ q, q < H.size → AX q → A0 q)
    (kx : ∀ (E : String) (ce : Cell) (q9 : Addr) (u : SX) (t : State) (H1 : Heap) (locs1 : List Loc), t.heap = H1 → s.vm.Alike t.vm → px u → BX E u t → H.size ≤ H1.size → (∀ q : Nat, q < H.size → ¬ AX q → H1[q]? = H[q]?) → va_S A0 H0 H1 locs1 → H1[q9]? = some ce → ce.vm = .none → s.vm.findClass E = some ce.cls → vx_W p l e R s m args below meth c H1 locs1 (cells + mc) (slots + ms) Q (F0 m pc ls rest) q9)
    (kk : ∀ (u : S) (t : State) (H1 : Heap) (locs1 : List Loc), t.heap = H1 → s.vm.Alike t.vm → post u → B u t → H.size ≤ H1.size → (∀ q : Nat, q < H.size → ¬ A1 q → H1[q]? = H[q]?) → va_S A0 H0 H1 locs1 → W p l e R s m args below meth c H1 locs1 (cells + mc) (slots + ms) Q (F0 m (pc + 3) ls (rest))) : W p l e R s m args below meth c H locs cells slots Q (F0 m pc ls st0) := by
  intro T hT X
  rcases hr T hT X with ⟨v, st₀, t, T', L, h0, X', hL, e1, e2, ⟨⟨u, hv, hp, hb⟩, hF⟩, st⟩ | ⟨q, st₀, t, T', L, E, ce, h0, X', hL, e1, e2, ⟨u, hp, hb, hF⟩, hce, hcv, hcl, st⟩
  · cases hv
    obtain ⟨k1, k2, k3⟩ := vx_keep h0 e1 hS hA hf hL hF
    obtain ⟨t2, a1, b1⟩ := kk u t T'.heap (locs ++ L) e1.symm (by rw [← e2]; exact X'.warmed.alike) hp hb k1 k2 k3 T' rfl X'
    exact ⟨t2, st t2 a1, b1⟩
  · obtain ⟨k1, k2, k3⟩ := vx_keep h0 e1 hS hAX hf hL hF
    obtain ⟨t2, a1, b1⟩ := kx E ce q u t T'.heap (locs ++ L) e1.symm (by rw [← e2]; exact X'.warmed.alike) hp hb k1 k2 k3 (by rw [e1]; exact hce) hcv hcl T' rfl X'
    exact ⟨t2, st.trans a1, b1⟩
/-- caught by the row x of this method's table; the rows ahead don't take it -/
theorem vx_catch {own name : String} {E : String} {ce : Cell} {q : Addr} (hown : s.vm.findClass own = some m.cls) (pre : List ExceptionTableEntry) (x : ExceptionTableEntry) (suf : List ExceptionTableEntry) (hsplit : c.exceptionTable.toList = pre ++ x :: suf)
    (hpass : ∀ z ∈ pre, covers z pc = false ∨ (z.catchType ≠ 0 ∧ ∃ nm : String, (Cond.classLink own z.catchType nm).before args s = true ∧ va_Nc E nm s)) (hx : covers x pc = true) (h0 : x.catchType ≠ 0)
    (hlink : (Cond.classLink own x.catchType name).before args s = true) (hcast : (Cond.castable E name).before args s = true) (hcell : H[q]? = some ce) (hv : ce.vm = .none) (hcl : s.vm.findClass E = some ce.cls)
    (kk : W p l e R s m args below meth c H locs cells slots Q (F0 m x.handlerPc ls [.ref q])) : vx_W p l e R s m args below meth c H locs cells slots Q (F0 m pc ls rest) q := by
  intro T hT X
  have hpl : e.platform.magicAccessors = ({} : Platform).magicAccessors := by rw [X.admits.platform]
  obtain ⟨c3, c4, hc3, hc4, hasg⟩ := Cond.castable_spec hcast
  cases Option.some.inj (hc3.symm.trans hcl)
  obtain ⟨c5, hc5, hcl5⟩ := Cond.classLink_spec hown hlink e.platform hpl
  cases Option.some.inj (hc4.symm.trans hc5)
  obtain ⟨vm', X', st⟩ := X.thenCaughtThrough q (g := F0 m pc ls rest) rfl (Steps.refl _) (by rw [hT]; exact hcell) (by rw [hv]; rfl) (by obtain ⟨k9, h9, -⟩ := Vm.findClass_spec hcl; exact ⟨k9, h9⟩) pre x suf hsplit
    (fun z hz => by
      rcases hpass z hz with h | ⟨hz0, nm, hl1, hn1⟩
      · exact Or.inl h
      · obtain ⟨c6, hc6, hcl6⟩ := Cond.classLink_spec hown hl1 e.platform hpl
        obtain ⟨a8, b8, h1, h2, h3⟩ := hn1
        cases Option.some.inj (h1.symm.trans hcl)
        cases Option.some.inj (h2.symm.trans hc6)
        exact Or.inr ⟨hz0, _, hcl6, h3⟩) hx (Or.inr ⟨h0, c4, hcl5, hasg⟩)
  obtain ⟨t, a1, b1⟩ := kk (T.setVm vm') hT X'
  exact ⟨t, st.trans a1, b1⟩
end Rows
section Ends
variable {p : Program} {l : Launch} {e : Env} {R : Room} {s : State} {m : MethodId} {args : Array Value} {below : List Frame} {meth : Method} {c : Code} {H : Heap} {locs : List Loc} {cells slots : Nat} {Q : State → Prop}
variable {mc ms : Nat} {free : Addr → Prop} {A0 A1 : Nat → Prop} {H0 : Heap} {a : Array Value} {ls : Array Slot} {st0 rest : List Value}
variable {Qc : Array Value → State → Outcome → State → Prop} {XC : String → State → State → Prop}
/-- what a body that may throw owes at its end -/
def vx_MQ (below : List Frame) (Qc : Array Value → State → Outcome → State → Prop) (XC : String → State → State → Prop) (a : Array Value) (s : State) (mc ms : Nat) (free : Addr → Prop) : State → Prop := fun t =>
  ∃ o, t.status = .running ∧ Ended t below o ∧ vx_Q Qc XC mc ms free a s o t
theorem vx_ret {g : JFrame} {mc ms : Nat} (k : W p l e R s m args below meth c H locs cells slots (MQ below Qc args s mc ms free) g) : W p l e R s m args below meth c H locs cells slots (vx_MQ below Qc XC args s mc ms free) g := by
  intro T hT X
  obtain ⟨t, a1, o, b1, b2, b3, b4⟩ := k T hT X
  exact ⟨t, a1, o, b1, b2, Or.inl ⟨b3, b4⟩⟩
/-- not caught here: it goes on to the caller -/
theorem vx_widen {g : JFrame} {q : Addr} {k n : Nat} (h1 : cells ≤ k) (h2 : slots ≤ n) (kk : vx_W p l e R s m args below meth c H locs k n Q g q) : vx_W p l e R s m args below meth c H locs cells slots Q g q := fun T hT X => kk T hT (stand_widen X h1 h2)
theorem vx_out {pc : Nat} {E : String} {ce : Cell} {q : Addr} {mc ms : Nat} (hout : ∀ x ∈ c.exceptionTable.toList, covers x pc = false) (hlocks : meth.locks = false) (hcell : H[q]? = some ce) (hv : ce.vm = .none) (hcl : s.vm.findClass E = some ce.cls)
    (hx : ∀ t : State, t.heap = H → s.vm.Alike t.vm → XC E s t) (hf : ∀ z ∈ locs, free z.base) (hc : cells ≤ mc) (hs : slots ≤ ms) :
    vx_W p l e R s m args below meth c H locs cells slots (vx_MQ below Qc XC args s mc ms free) (F0 m pc ls rest) q := by
  intro T hT X
  obtain ⟨st1, hrun, hend, hW, hsm⟩ := X.leaveThrown q (g := F0 m pc ls rest) rfl rfl rfl hout hlocks
  have hcell9 : (T.setFrames (.throwing q :: below)).heap[q]? = some ce := by
    show T.heap[q]? = some ce
    rw [hT]; exact hcell
  exact ⟨_, st1, .threw q, hrun, hend, Or.inr ⟨q, rfl, E, ce, locs, hx _ hT hW.alike, hcell9, hv, hcl, hW, hsm.mono hc hs, hf⟩⟩
theorem vx_frame {U : State} {k n : Nat} (h : s.sameButNew ({ U with vm := s.vm } : State) locs k n) : s.heap.size ≤ U.heap.size ∧ ∀ q : Nat, q < s.heap.size → (∀ z ∈ locs, z.base ≠ q) → U.heap[q]? = s.heap[q]? := by
  obtain ⟨-, h2, -, -, -, h6⟩ := h
  refine ⟨h2, fun q hq hz => ?_⟩
  obtain ⟨c9, e1, e2, e3, e4⟩ := h6 q _ (Array.getElem?_eq_getElem hq)
  have hs : c9.slots = (s.heap[q]).slots := Array.ext_getElem? fun i => e4 i fun hm => hz _ hm rfl
  have h9 : c9 = s.heap[q] := by
    rw [hs] at e2
    exact e2
  have e5 : U.heap[q]? = some c9 := e1
  rw [e5, h9, Array.getElem?_eq_getElem hq]
/-- the words of a throw but the four that speak of the heap -/
def vx_no (w : Cond) : Bool := decide (w ≠ .isRef (.static Bundle.tN "UNASSIGNED_STACK" Bundle.steD)) && decide (w ≠ .isRef (.static Bundle.tN "SUPPRESSED_SENTINEL" Bundle.listD)) && decide (w ≠ .laysStatic Bundle.tN "UNASSIGNED_STACK" Bundle.steD) && decide (w ≠ .laysStatic Bundle.tN "SUPPRESSED_SENTINEL" Bundle.listD)
def vx_at0 (own : String) (ic : Nat) (X : String) (names : List String) : List Cond := (Bundle.ownAtoms0 own ic X names).filter vx_no
def vx_atS (own : String) (ic : Nat) (X : String) (names : List String) : List Cond := (Bundle.ownAtoms own ic X names).filter vx_no
/-- a word that the tables alone decide, or a good one -/
def vx_ot (w : Cond) : Bool := w.onTables || goodWord w
theorem vx_ot_at {args a' : Array Value} {s U : State} {w : Cond} (hW : s.WarmedH U.vm) (hvm : s.vm = U.vm) (hg : vx_ot w = true) (h : w.before args s = true) : w.before a' U = true := by
  simp only [vx_ot, Bool.or_eq_true] at hg
  rcases hg with hg | hg
  · exact va_tabs hg hvm h
  · exact word_at hW (good_of_word hg) h
/-- a list's words: the good ones out of the method's own list, the others by premises of their own -/
theorem vx_hat {args : Array Value} {s : State} {L B : List Cond} (h1 : ∀ w ∈ L.filter goodWord, w.before args s = true) (h2 : ∀ w ∈ L.filter (fun w => !goodWord w), w ∈ B) (h3 : ∀ w ∈ B, w.before args s = true) : ∀ w ∈ L, w.before args s = true := by
  intro w hw
  by_cases g : goodWord w = true
  · exact h1 w (List.mem_filter.mpr ⟨hw, g⟩)
  · refine h3 w (h2 w (List.mem_filter.mpr ⟨hw, ?_⟩))
    show (!goodWord w) = true
    cases hgw : goodWord w
    · rfl
    · exact absurd hgw g
theorem vx_c {args : Array Value} {s : State} {w : Cond} {B : List Cond} (h : w.before args s = true) (t : ∀ w ∈ B, w.before args s = true) : ∀ w' ∈ w :: B, w'.before args s = true := fun w' h' => (List.mem_cons.mp h').elim (fun e => by rw [e]; exact h) (t w')
theorem vx_n {args : Array Value} {s : State} : ∀ w ∈ ([] : List Cond), w.before args s = true := fun _ h => nomatch h
theorem vx_own {args : Array Value} {s : State} {L : List Cond} (h1 : ∀ w ∈ L.filter vx_no, w.before args s = true)
    (hU : (Cond.isRef (.static Bundle.tN "UNASSIGNED_STACK" Bundle.steD)).before args s = true) (hN : (Cond.isRef (.static Bundle.tN "SUPPRESSED_SENTINEL" Bundle.listD)).before args s = true)
    (lU : (Cond.laysStatic Bundle.tN "UNASSIGNED_STACK" Bundle.steD).before args s = true) (lN : (Cond.laysStatic Bundle.tN "SUPPRESSED_SENTINEL" Bundle.listD).before args s = true) : ∀ w ∈ L, w.before args s = true := by
  intro w hw
  by_cases e1 : w = .isRef (.static Bundle.tN "UNASSIGNED_STACK" Bundle.steD)
  · rw [e1]; exact hU
  · by_cases e2 : w = .isRef (.static Bundle.tN "SUPPRESSED_SENTINEL" Bundle.listD)
    · rw [e2]; exact hN
    · by_cases e3 : w = .laysStatic Bundle.tN "UNASSIGNED_STACK" Bundle.steD
      · rw [e3]; exact lU
      · by_cases e4 : w = .laysStatic Bundle.tN "SUPPRESSED_SENTINEL" Bundle.listD
        · rw [e4]; exact lN
        · exact h1 w (List.mem_filter.mpr ⟨hw, by unfold vx_no; rw [decide_eq_true e1, decide_eq_true e2, decide_eq_true e3, decide_eq_true e4]; rfl⟩)
/-- where a static field lies, its class's statics cell in H -/
def vx_L (C n d : String) (A : Nat → Prop) (U : State) (H : Heap) : Prop := ∃ (c : ClassId) (k : Class) (i : Nat) (f : Field) (a : Nat) (cell : Cell), U.vm.findClass C = some c ∧ U.fieldFound? C n d = some (c, k, i, f) ∧ f.isStatic = true ∧ k.statics = some a ∧ H[a]? = some cell ∧ cell.vm.isStatics = true ∧ cell.cls = c ∧ f.slot < cell.slots.size ∧ k.staticTypes[f.slot]? = some f.type ∧ ¬ A a
theorem vx_L.moved {C n d : String} {A : Nat → Prop} {u U : State} {H : Heap} (hvm : u.vm.Alike U.vm) (h : vx_L C n d A u H) : vx_L C n d A U H := by
  obtain ⟨c, k, i, f, a, cell, h1, h2, h3, h4, h5, h6, h7, h8, h9, h10⟩ := h
  obtain ⟨k', hi', he⟩ := State.fieldFound?_setVm hvm h2
  exact ⟨c, k', i, f, a, cell, by rw [hvm.findClass]; exact h1, hi', h3, by rw [he]; exact h4, h5, h6, h7, h8, by rw [he]; exact h9, h10⟩
theorem vx_L.kept {C n d : String} {A : Nat → Prop} {U : State} {H H1 : Heap} (h : vx_L C n d A U H) (hq : ∀ a : Nat, a < H.size → ¬ A a → H1[a]? = H[a]?) : vx_L C n d A U H1 := by
  obtain ⟨c, k, i, f, a, cell, h1, h2, h3, h4, h5, h6, h7, h8, h9, h10⟩ := h
  exact ⟨c, k, i, f, a, cell, h1, h2, h3, h4, by rw [hq a (Array.getElem?_eq_some_iff.mp h5).1 h10]; exact h5, h6, h7, h8, h9, h10⟩
theorem vx_L.narrow {C n d : String} {A B : Nat → Prop} {U : State} {H : Heap} (h : vx_L C n d A U H) (hAB : ∀ q, B q → A q) : vx_L C n d B U H := by
  obtain ⟨c, k, i, f, a, cell, h1, h2, h3, h4, h5, h6, h7, h8, h9, h10⟩ := h
  exact ⟨c, k, i, f, a, cell, h1, h2, h3, h4, h5, h6, h7, h8, h9, fun z => h10 (hAB _ z)⟩
theorem vx_L.word {C n d : String} {A : Nat → Prop} {s : State} {args : Array Value} (h : vx_L C n d A s s.heap) : (Cond.laysStatic C n d).before args s = true := by
  obtain ⟨c, k, i, f, a, cell, h1, h2, h3, h4, h5, h6, h7, h8, h9, -⟩ := h
  show (Cond.laysStatic C n d).holds args s none s [] = true
  exact Cond.laysStatic_of h1 h2 h3 h4 h5 h6 h7 h8 h9
/-- .. and what it holds: null or some reference -/
def vx_Zq (C n d : String) (A : Nat → Prop) (U : State) (H : Heap) : Prop := va_Zq C n d A U H ∧ vx_L C n d A U H
theorem vx_Zq.moved {C n d : String} {A : Nat → Prop} {u U : State} {H : Heap} (hvm : u.vm.Alike U.vm) (h : vx_Zq C n d A u H) : vx_Zq C n d A U H := ⟨va_Zq.moved hvm h.1, vx_L.moved hvm h.2⟩
theorem vx_Zq.kept {C n d : String} {A : Nat → Prop} {U : State} {H H1 : Heap} (h : vx_Zq C n d A U H) (hq : ∀ a : Nat, a < H.size → ¬ A a → H1[a]? = H[a]?) : vx_Zq C n d A U H1 := ⟨va_Zq.kept h.1 hq, vx_L.kept h.2 hq⟩
theorem vx_Zq.narrow {C n d : String} {A B : Nat → Prop} {U : State} {H : Heap} (h : vx_Zq C n d A U H) (hAB : ∀ q, B q → A q) : vx_Zq C n d B U H := ⟨va_Zq.narrow h.1 hAB, vx_L.narrow h.2 hAB⟩
theorem vx_Zqof {args : Array Value} {s : State} {C n d : String} {A : Nat → Prop} (hl : (Cond.laysStatic C n d).before args s = true) (hini : (Cond.initialized C).before args s = true) (h : (Cond.isRef (.static C n d)).before args s = true) (hA : ∀ a : Nat, a < s.heap.size → ¬ A a) : vx_Zq C n d A s s.heap := by
  refine ⟨va_Zqof hl hini h hA, ?_⟩
  obtain ⟨c, k, i, f, a, cell, h1, h2, h3, h4, h5, h6, h7, h8, h9⟩ := Cond.laysStatic_spec hl
  exact ⟨c, k, i, f, a, cell, h1, h2, h3, h4, h5, h6, h7, h8, h9, hA a (Array.getElem?_eq_some_iff.mp h5).1⟩
theorem vx_isRef {C n d : String} {v : Value} {A : Nat → Prop} {s : State} {args : Array Value} (h : va_Z C n d v A s s.heap) (hv : v.isRef = true) : (Cond.isRef (.static C n d)).before args s = true := by
  obtain ⟨cf, kf, fi, f, a, cell, h1, h2, h3, h4, h5, h6, h7, -⟩ := h
  have he : (Term.static C n d).eval args s none [] s = some v := by
    simp [Term.eval, State.fieldNamed?, h1, h2, h4, h5, h6, h7]
  simp only [Cond.before, Cond.holds, Cond.value, he]
  cases v <;> simp_all [Value.isRef]
theorem vx_isRefq {C n d : String} {A : Nat → Prop} {s : State} {args : Array Value} (h : va_Zq C n d A s s.heap) : (Cond.isRef (.static C n d)).before args s = true := by
  rcases h with h | ⟨t, h⟩
  · exact vx_isRef h rfl
  · exact vx_isRef h rfl
/-- the same frame, seen from here: as if the method were called anew in this heap -/
theorem vx_rebase {T : State} (X : Stand p l e R s m args below meth c T locs cells slots) {R' : Room} (hf : R'.frames ≤ R.frames) (hl : R'.locals ≤ R.locals) (hc : cells + R'.cells ≤ R.cells) (hs : slots + R'.slots ≤ R.slots) :
    Stand p l e R' ((T.setVm s.vm).setFrames (.invoking m args :: below)) m args below meth c T [] 0 0 := by
  have htop : (T.setVm s.vm).topJava?.isSome := X.here.top
  have hF : ((T.setVm s.vm).setFrames (.invoking m args :: below)).frames = .invoking m args :: below := State.frames_setFrames _ (State.cur_lt_of_top htop)
  obtain ⟨g₀, hg0⟩ := Option.isSome_iff_exists.mp htop
  obtain ⟨r, hr⟩ := State.topJava?_eq_some.mp hg0
  have hl9 : e.platform.stackLimits (T.setVm s.vm).me = e.platform.stackLimits s.me := X.limits
  have hb9 : (T.setVm s.vm).me.stackBytes = s.me.stackBytes := X.bytes
  refine ⟨X.admits, X.cas, X.clock, hF, ?_, X.hears, X.method, X.code, X.here, X.tail, X.warmed, ?_, ?_, ?_⟩
  · have h := X.room
    have hU : ((T.setVm s.vm).setFrames (.invoking m args :: below)).localsInUse = s.localsInUse := by
      rw [State.localsInUse_invoking hF (meth := meth) (c := c) X.method X.code, State.localsInUse_invoking X.frames X.method X.code]
    simp only [State.hasRoom, Bool.and_eq_true, decide_eq_true_eq] at h ⊢
    obtain ⟨⟨⟨⟨h1, h2, h3, h4, h5, h6⟩, h7⟩, h8⟩, h9⟩ := h
    rw [X.frames, List.length_cons] at h2 h3
    have q1 := X.heapSize
    have q2 := X.used
    simp only [hF, hU, List.length_cons, State.stackLimits_setFrames, State.stackBytes_setFrames, hl9, hb9]
    refine ⟨⟨⟨⟨by omega, by omega, by omega, by omega, by omega, h6⟩, ?_⟩, ?_⟩, X.book⟩
    · show T.heap.size + R'.cells ≤ e.platform.maxCells
      omega
    · show T.slotsUsed + R'.slots ≤ e.platform.maxSlots
      omega
  · rw [State.stackLimits_setFrames]; rfl
  · rw [State.stackBytes_setFrames]; rfl
  · refine ⟨?_, Nat.le_refl _, Nat.le_refl _, ?_, ?_, fun a c9 h9 => ⟨c9, h9, rfl, rfl, fun _ _ => rfl⟩⟩
    · obtain ⟨t, ht, -⟩ := State.frames_cons hr
      show T.setVm s.vm = { ((T.setVm s.vm).setFrames (.invoking m args :: below)).setFrames (T.setVm s.vm).frames with heap := T.heap, slotsUsed := T.slotsUsed }
      rw [State.setFrames_setFrames, State.setFrames_self ht]
      rfl
    · show T.slotsUsed = T.slotsUsed + ((T.heap.toList.drop T.heap.size).map (·.slots.size)).sum
      rw [List.drop_eq_nil_of_le (Nat.le_of_eq Array.length_toList)]
      rfl
    · show ((T.heap.toList.drop T.heap.size).map (·.slots.size)).sum ≤ 0
      rw [List.drop_eq_nil_of_le (Nat.le_of_eq Array.length_toList)]
      exact Nat.le_refl _
/-- 'throw new E()': new; dup; invokespecial; athrow -/
theorem vx_throw0 {cc : ByteArray} {pc : Nat} (hexec : p.tables.exec = Jvm.exec) (hb : c.code = cc) (hl : l.stackTraces = false) {own cls : String} {names : List String} {ik ic mc ms : Nat} {A : Nat → Prop}
    (hown : s.vm.findClass own = some m.cls) (hcls : Bundle.fit cls = true) (hnames : ∀ n ∈ names, Bundle.fit n = true)
    (hk : (Cond.classLink own ik cls).before args s = true) (hini : (Cond.initialized cls).before args s = true) (hat : ∀ w ∈ vx_at0 own ic cls names, w.before args s = true)
    (hgood : ∀ w ∈ Cond.classLink own ik cls :: Cond.initialized cls :: vx_at0 own ic cls names, vx_ot w = true)
    (hU : vx_Zq Bundle.tN "UNASSIGNED_STACK" Bundle.steD A s s.heap) (hN : vx_Zq Bundle.tN "SUPPRESSED_SENTINEL" Bundle.listD A s s.heap) (hS : va_S A s.heap H locs) (hsize : ls.size = c.maxLocals)
    (d0 : decode cc pc = .ok (.new ik, 3)) (d3 : decode cc (pc + 3) = .ok (.dup, 1)) (d4 : decode cc (pc + 4) = .ok (.invokespecial ic, 3)) (d7 : decode cc (pc + 7) = .ok (.athrow, 1))
    (hout : ∀ x ∈ c.exceptionTable.toList, covers x (pc + 7) = false)
    (hRframes : names.length + 3 < R.frames) (hRlocals : (rest.map fun v => v.category).sum + (13 * (names.length + 1) + 42) ≤ R.locals) (hRcells : cells + 1 ≤ R.cells) (hRslots : slots + 6 ≤ R.slots) (hlocks : meth.locks = false)
    (hx : ∀ t : State, s.vm.Alike t.vm → H.size ≤ t.heap.size → (∀ q : Nat, q < H.size → t.heap[q]? = H[q]?) → XC cls s t)
    (hf : ∀ z ∈ locs, free z.base) (hc : cells + 1 ≤ mc) (hs : slots + 6 ≤ ms) :
    W p l e R s m args below meth c H locs cells slots (vx_MQ below Qc XC args s mc ms free) (F0 m pc ls rest) := by
  intro T hT X
  have htr : e.platform.stackTraces = false := (show e.platform.stackTraces = l.stackTraces by rw [X.admits.platform]).trans hl
  have Y := vx_rebase X (R' := { frames := R.frames, locals := R.locals, cells := 1, slots := 6 }) (Nat.le_refl _) (Nat.le_refl _) hRcells hRslots
  obtain ⟨s', hA⟩ : ∃ z, z = (T.setVm s.vm).setFrames (.invoking m args :: below) := ⟨_, rfl⟩
  rw [← hA] at Y
  have hvm : s'.vm = s.vm := by rw [hA]; rfl
  have hhp : s'.heap = H := by rw [hA]; exact hT
  have hW0 : s.WarmedH s'.vm := by rw [hvm]; exact State.WarmedH.refl s
  have hat' : ∀ w ∈ vx_at0 own ic cls names, w.before args s' = true := fun w hw => vx_ot_at hW0 hvm.symm (hgood w (List.mem_cons_of_mem _ (List.mem_cons_of_mem _ hw))) (hat w hw)
  have hk' : (Cond.classLink own ik cls).before args s' = true := vx_ot_at hW0 hvm.symm (hgood _ List.mem_cons_self) hk
  have hini' : (Cond.initialized cls).before args s' = true := vx_ot_at hW0 hvm.symm (hgood _ (List.mem_cons_of_mem _ List.mem_cons_self)) hini
  have hU' : vx_Zq Bundle.tN "UNASSIGNED_STACK" Bundle.steD A s' s'.heap := by rw [hhp]; exact vx_Zq.moved hW0.alike (hU.kept hS.2.1)
  have hN' : vx_Zq Bundle.tN "SUPPRESSED_SENTINEL" Bundle.listD A s' s'.heap := by rw [hhp]; exact vx_Zq.moved hW0.alike (hN.kept hS.2.1)
  have h : ∀ w ∈ Bundle.ownAtoms0 own ic cls names, w.before args s' = true := vx_own hat' (vx_isRefq hU'.1) (vx_isRefq hN'.1) hU'.2.word hN'.2.word
  have hown' : s'.vm.findClass own = some m.cls := by rw [hvm]; exact hown
  have hins : (Cond.instantiable cls 6).before args s' = true := h _ (by simp [Bundle.ownAtoms0])
  obtain ⟨vm₁, cX, kX, hfX, hkX, -, -, X₁, st1⟩ := Y.newCold hexec (own := own) (C := cls) (index := ik) (n := 6) hown' hk' hins hini'
    (g := F0 m pc ls rest) rfl (by rw [hb]; exact d0) (Nat.le_refl _) (Nat.le_refl _)
  generalize hT1 : (T.setVm vm₁).pushCell { cls := cX, slots := kX.instanceTypes.map defaultValue, vm := .none } = T1 at X₁ st1
  have hcat : (Value.ref T.heap.size).category = 1 := rfl
  have hcellA : T1.heap[T.heap.size]? = some (freshCell cX kX) := by rw [← hT1]; exact State.heap_pushCell_size _ _
  have d3' : decode c.code (pc + 3) = .ok (.dup, 1) := by rw [hb]; exact d3
  obtain ⟨U, hsteps, hrun, hend, hW, hsame, ce, hce, hO⟩ := X₁.ctorThrow0 hexec htr (own := own) (cls := cls) (names := names) (ic := ic) hown' hcls hnames h (fun x hx => nomatch hx) hfX hkX hcellA (by rw [hhp, hT]; exact Nat.le_refl _)
    (g := { method := m, pc := pc + 4, locals := ls, stack := .ref T.heap.size :: .ref T.heap.size :: rest, locked := none }) rfl hsize rfl rfl (rest := rest) rfl
    (by rw [hb]; exact d4) (by rw [hb]; exact d7) hout hRframes (by simp only [List.map_cons, List.sum_cons, hcat]; omega) hlocks
  obtain ⟨f1, f2⟩ := vx_frame hsame
  rw [hhp] at f1 f2
  have hWs : s.WarmedH U.vm := State.WarmedH.trans hW0 hW
  have hcl : s.vm.findClass cls = some ce.cls := by
    have h9 := hO.cls
    rw [hvm] at h9
    exact h9
  have hall : s.sameButNew ({ U with vm := s.vm } : State) locs mc ms := by
    subst hA
    obtain ⟨e1, e2⟩ := hsame
    rw [State.setFrames_setFrames] at e1
    have h2 : (T.setVm s.vm).sameButNew ({ U with vm := s.vm } : State) [] (0 + 1) (0 + 6) := ⟨e1, e2⟩
    have h3 := X.same.trans h2
    rw [List.append_nil] at h3
    exact h3.mono hc hs
  refine ⟨U, ?_, .threw T.heap.size, hrun, hend, Or.inr ⟨T.heap.size, rfl, cls, ce, locs, hx U hWs.alike f1 (fun q hq => f2 q hq (fun z hz => nomatch hz)), hce, hO.vm, hcl, hWs, hall, hf⟩⟩
  refine st1 _ ?_
  show Steps p.tables e below (T1.setTop { method := m, pc := pc + 3, locals := ls, stack := .ref T.heap.size :: rest, locked := none }) _
  jvm_step X₁.here [X₁.here.top, hexec, d3', Value.category]
  exact hsteps
/-- 'throw new E("text")': new; dup; ldc; invokespecial; athrow -/
theorem vx_throwS {cc : ByteArray} {pc : Nat} (hexec : p.tables.exec = Jvm.exec) (hb : c.code = cc) (hl : l.stackTraces = false) {own cls text : String} {names : List String} {ik is ic mc ms sa : Nat} {A : Nat → Prop}
    (hown : s.vm.findClass own = some m.cls) (hcls : Bundle.fit cls = true) (hnames : ∀ n ∈ names, Bundle.fit n = true)
    (hk : (Cond.classLink own ik cls).before args s = true) (hini : (Cond.initialized cls).before args s = true) (hstr : vk_R own is text sa s) (hat : ∀ w ∈ vx_atS own ic cls names, w.before args s = true)
    (hgood : ∀ w ∈ Cond.classLink own ik cls :: Cond.initialized cls :: vx_atS own ic cls names, vx_ot w = true)
    (hU : vx_Zq Bundle.tN "UNASSIGNED_STACK" Bundle.steD A s s.heap) (hN : vx_Zq Bundle.tN "SUPPRESSED_SENTINEL" Bundle.listD A s s.heap) (hS : va_S A s.heap H locs) (hsize : ls.size = c.maxLocals)
    (d0 : decode cc pc = .ok (.new ik, 3)) (d3 : decode cc (pc + 3) = .ok (.dup, 1)) (d4 : decode cc (pc + 4) = .ok (.ldc is, 2)) (d6 : decode cc (pc + 6) = .ok (.invokespecial ic, 3)) (d9 : decode cc (pc + 9) = .ok (.athrow, 1))
    (hout : ∀ x ∈ c.exceptionTable.toList, covers x (pc + 9) = false)
    (hRframes : names.length + 3 < R.frames) (hRlocals : (rest.map fun v => v.category).sum + (13 * (names.length + 1) + 43) ≤ R.locals) (hRcells : cells + 1 ≤ R.cells) (hRslots : slots + 6 ≤ R.slots) (hlocks : meth.locks = false)
    (hx : ∀ t : State, s.vm.Alike t.vm → H.size ≤ t.heap.size → (∀ q : Nat, q < H.size → t.heap[q]? = H[q]?) → XC cls s t)
    (hf : ∀ z ∈ locs, free z.base) (hc : cells + 1 ≤ mc) (hs : slots + 6 ≤ ms) :
    W p l e R s m args below meth c H locs cells slots (vx_MQ below Qc XC args s mc ms free) (F0 m pc ls rest) := by
  intro T hT X
  have htr : e.platform.stackTraces = false := (show e.platform.stackTraces = l.stackTraces by rw [X.admits.platform]).trans hl
  have Y := vx_rebase X (R' := { frames := R.frames, locals := R.locals, cells := 1, slots := 6 }) (Nat.le_refl _) (Nat.le_refl _) hRcells hRslots
  obtain ⟨s', hA⟩ : ∃ z, z = (T.setVm s.vm).setFrames (.invoking m args :: below) := ⟨_, rfl⟩
  rw [← hA] at Y
  have hvm : s'.vm = s.vm := by rw [hA]; rfl
  have hhp : s'.heap = H := by rw [hA]; exact hT
  have hW0 : s.WarmedH s'.vm := by rw [hvm]; exact State.WarmedH.refl s
  have hat' : ∀ w ∈ vx_atS own ic cls names, w.before args s' = true := fun w hw => vx_ot_at hW0 hvm.symm (hgood w (List.mem_cons_of_mem _ (List.mem_cons_of_mem _ hw))) (hat w hw)
  have hk' : (Cond.classLink own ik cls).before args s' = true := vx_ot_at hW0 hvm.symm (hgood _ List.mem_cons_self) hk
  have hini' : (Cond.initialized cls).before args s' = true := vx_ot_at hW0 hvm.symm (hgood _ (List.mem_cons_of_mem _ List.mem_cons_self)) hini
  have hU' : vx_Zq Bundle.tN "UNASSIGNED_STACK" Bundle.steD A s' s'.heap := by rw [hhp]; exact vx_Zq.moved hW0.alike (hU.kept hS.2.1)
  have hN' : vx_Zq Bundle.tN "SUPPRESSED_SENTINEL" Bundle.listD A s' s'.heap := by rw [hhp]; exact vx_Zq.moved hW0.alike (hN.kept hS.2.1)
  have h : ∀ w ∈ Bundle.ownAtoms own ic cls names, w.before args s' = true := vx_own hat' (vx_isRefq hU'.1) (vx_isRefq hN'.1) hU'.2.word hN'.2.word
  have hown' : s'.vm.findClass own = some m.cls := by rw [hvm]; exact hown
  have hins : (Cond.instantiable cls 6).before args s' = true := h _ (by simp [Bundle.ownAtoms])
  obtain ⟨vm₁, cX, kX, hfX, hkX, -, -, X₁, st1⟩ := Y.newCold hexec (own := own) (C := cls) (index := ik) (n := 6) hown' hk' hins hini'
    (g := F0 m pc ls rest) rfl (by rw [hb]; exact d0) (Nat.le_refl _) (Nat.le_refl _)
  generalize hT1 : (T.setVm vm₁).pushCell { cls := cX, slots := kX.instanceTypes.map defaultValue, vm := .none } = T1 at X₁ st1
  have hcat : (Value.ref T.heap.size).category = 1 := rfl
  have hcellA : T1.heap[T.heap.size]? = some (freshCell cX kX) := by rw [← hT1]; exact State.heap_pushCell_size _ _
  have d3' : decode c.code (pc + 3) = .ok (.dup, 1) := by rw [hb]; exact d3
  have d4' : decode c.code (pc + 4) = .ok (.ldc is, 2) := by rw [hb]; exact d4
  have hstr' : vk_R own is text sa s' := vk_R.warm hW0 hstr
  obtain ⟨U, hsteps, hrun, hend, hW, hsame, ce, hce, hO⟩ := X₁.ctorThrowS hexec htr (own := own) (cls := cls) (names := names) (ic := ic) hown' hcls hnames h (fun x hx => nomatch hx) hfX hkX hcellA (by rw [hhp, hT]; exact Nat.le_refl _) (msg := .ref sa) rfl
    (g := { method := m, pc := pc + 6, locals := ls, stack := .ref sa :: .ref T.heap.size :: .ref T.heap.size :: rest, locked := none }) rfl hsize rfl rfl (rest := rest) rfl
    (by rw [hb]; exact d6) (by rw [hb]; exact d9) hout hRframes (by simp only [List.map_cons, List.sum_cons, hcat]; omega) hlocks
  obtain ⟨f1, f2⟩ := vx_frame hsame
  rw [hhp] at f1 f2
  have hWs : s.WarmedH U.vm := State.WarmedH.trans hW0 hW
  have hcl : s.vm.findClass cls = some ce.cls := by
    have h9 := hO.cls
    rw [hvm] at h9
    exact h9
  have hall : s.sameButNew ({ U with vm := s.vm } : State) locs mc ms := by
    subst hA
    obtain ⟨e1, e2⟩ := hsame
    rw [State.setFrames_setFrames] at e1
    have h2 : (T.setVm s.vm).sameButNew ({ U with vm := s.vm } : State) [] (0 + 1) (0 + 6) := ⟨e1, e2⟩
    have h3 := X.same.trans h2
    rw [List.append_nil] at h3
    exact h3.mono hc hs
  refine ⟨U, ?_, .threw T.heap.size, hrun, hend, Or.inr ⟨T.heap.size, rfl, cls, ce, locs, hx U hWs.alike f1 (fun q hq => f2 q hq (fun z hz => nomatch hz)), hce, hO.vm, hcl, hWs, hall, hf⟩⟩
  refine st1 _ ?_
  show Steps p.tables e below (T1.setTop { method := m, pc := pc + 3, locals := ls, stack := .ref T.heap.size :: rest, locked := none }) _
  jvm_step X₁.here [X₁.here.top, hexec, d3', Value.category]
  exact X₁.ldcString hexec (own := own) (text := text) (index := is) (a := sa) hown' hstr'.1 hstr'.2
    (g := { method := m, pc := pc + 4, locals := ls, stack := .ref T.heap.size :: .ref T.heap.size :: rest, locked := none }) rfl d4' _ hsteps
/-- 'throw new E("text")', the text by a wide index -/
theorem vx_throwSW {cc : ByteArray} {pc : Nat} (hexec : p.tables.exec = Jvm.exec) (hb : c.code = cc) (hl : l.stackTraces = false) {own cls text : String} {names : List String} {ik is ic mc ms sa : Nat} {A : Nat → Prop}
    (hown : s.vm.findClass own = some m.cls) (hcls : Bundle.fit cls = true) (hnames : ∀ n ∈ names, Bundle.fit n = true)
    (hk : (Cond.classLink own ik cls).before args s = true) (hini : (Cond.initialized cls).before args s = true) (hstr : vk_R own is text sa s) (hat : ∀ w ∈ vx_atS own ic cls names, w.before args s = true)
    (hgood : ∀ w ∈ Cond.classLink own ik cls :: Cond.initialized cls :: vx_atS own ic cls names, vx_ot w = true)
    (hU : vx_Zq Bundle.tN "UNASSIGNED_STACK" Bundle.steD A s s.heap) (hN : vx_Zq Bundle.tN "SUPPRESSED_SENTINEL" Bundle.listD A s s.heap) (hS : va_S A s.heap H locs) (hsize : ls.size = c.maxLocals)
    (d0 : decode cc pc = .ok (.new ik, 3)) (d3 : decode cc (pc + 3) = .ok (.dup, 1)) (d4 : decode cc (pc + 4) = .ok (.ldc_w is, 3)) (d7 : decode cc (pc + 7) = .ok (.invokespecial ic, 3)) (d10 : decode cc (pc + 10) = .ok (.athrow, 1))
    (hout : ∀ x ∈ c.exceptionTable.toList, covers x (pc + 10) = false)
    (hRframes : names.length + 3 < R.frames) (hRlocals : (rest.map fun v => v.category).sum + (13 * (names.length + 1) + 43) ≤ R.locals) (hRcells : cells + 1 ≤ R.cells) (hRslots : slots + 6 ≤ R.slots) (hlocks : meth.locks = false)
    (hx : ∀ t : State, s.vm.Alike t.vm → H.size ≤ t.heap.size → (∀ q : Nat, q < H.size → t.heap[q]? = H[q]?) → XC cls s t)
    (hf : ∀ z ∈ locs, free z.base) (hc : cells + 1 ≤ mc) (hs : slots + 6 ≤ ms) :
    W p l e R s m args below meth c H locs cells slots (vx_MQ below Qc XC args s mc ms free) (F0 m pc ls rest) := by
  intro T hT X
  have htr : e.platform.stackTraces = false := (show e.platform.stackTraces = l.stackTraces by rw [X.admits.platform]).trans hl
  have Y := vx_rebase X (R' := { frames := R.frames, locals := R.locals, cells := 1, slots := 6 }) (Nat.le_refl _) (Nat.le_refl _) hRcells hRslots
  obtain ⟨s', hA⟩ : ∃ z, z = (T.setVm s.vm).setFrames (.invoking m args :: below) := ⟨_, rfl⟩
  rw [← hA] at Y
  have hvm : s'.vm = s.vm := by rw [hA]; rfl
  have hhp : s'.heap = H := by rw [hA]; exact hT
  have hW0 : s.WarmedH s'.vm := by rw [hvm]; exact State.WarmedH.refl s
  have hat' : ∀ w ∈ vx_atS own ic cls names, w.before args s' = true := fun w hw => vx_ot_at hW0 hvm.symm (hgood w (List.mem_cons_of_mem _ (List.mem_cons_of_mem _ hw))) (hat w hw)
  have hk' : (Cond.classLink own ik cls).before args s' = true := vx_ot_at hW0 hvm.symm (hgood _ List.mem_cons_self) hk
  have hini' : (Cond.initialized cls).before args s' = true := vx_ot_at hW0 hvm.symm (hgood _ (List.mem_cons_of_mem _ List.mem_cons_self)) hini
  have hU' : vx_Zq Bundle.tN "UNASSIGNED_STACK" Bundle.steD A s' s'.heap := by rw [hhp]; exact vx_Zq.moved hW0.alike (hU.kept hS.2.1)
  have hN' : vx_Zq Bundle.tN "SUPPRESSED_SENTINEL" Bundle.listD A s' s'.heap := by rw [hhp]; exact vx_Zq.moved hW0.alike (hN.kept hS.2.1)
  have h : ∀ w ∈ Bundle.ownAtoms own ic cls names, w.before args s' = true := vx_own hat' (vx_isRefq hU'.1) (vx_isRefq hN'.1) hU'.2.word hN'.2.word
  have hown' : s'.vm.findClass own = some m.cls := by rw [hvm]; exact hown
  have hins : (Cond.instantiable cls 6).before args s' = true := h _ (by simp [Bundle.ownAtoms])
  obtain ⟨vm₁, cX, kX, hfX, hkX, -, -, X₁, st1⟩ := Y.newCold hexec (own := own) (C := cls) (index := ik) (n := 6) hown' hk' hins hini'
    (g := F0 m pc ls rest) rfl (by rw [hb]; exact d0) (Nat.le_refl _) (Nat.le_refl _)
  generalize hT1 : (T.setVm vm₁).pushCell { cls := cX, slots := kX.instanceTypes.map defaultValue, vm := .none } = T1 at X₁ st1
  have hcat : (Value.ref T.heap.size).category = 1 := rfl
  have hcellA : T1.heap[T.heap.size]? = some (freshCell cX kX) := by rw [← hT1]; exact State.heap_pushCell_size _ _
  have d3' : decode c.code (pc + 3) = .ok (.dup, 1) := by rw [hb]; exact d3
  have d4' : decode c.code (pc + 4) = .ok (.ldc_w is, 3) := by rw [hb]; exact d4
  have hstr' : vk_R own is text sa s' := vk_R.warm hW0 hstr
  obtain ⟨U, hsteps, hrun, hend, hW, hsame, ce, hce, hO⟩ := X₁.ctorThrowS hexec htr (own := own) (cls := cls) (names := names) (ic := ic) hown' hcls hnames h (fun x hx => nomatch hx) hfX hkX hcellA (by rw [hhp, hT]; exact Nat.le_refl _) (msg := .ref sa) rfl
    (g := { method := m, pc := pc + 7, locals := ls, stack := .ref sa :: .ref T.heap.size :: .ref T.heap.size :: rest, locked := none }) rfl hsize rfl rfl (rest := rest) rfl
    (by rw [hb]; exact d7) (by rw [hb]; exact d10) hout hRframes (by simp only [List.map_cons, List.sum_cons, hcat]; omega) hlocks
  obtain ⟨f1, f2⟩ := vx_frame hsame
  rw [hhp] at f1 f2
  have hWs : s.WarmedH U.vm := State.WarmedH.trans hW0 hW
  have hcl : s.vm.findClass cls = some ce.cls := by
    have h9 := hO.cls
    rw [hvm] at h9
    exact h9
  have hall : s.sameButNew ({ U with vm := s.vm } : State) locs mc ms := by
    subst hA
    obtain ⟨e1, e2⟩ := hsame
    rw [State.setFrames_setFrames] at e1
    have h2 : (T.setVm s.vm).sameButNew ({ U with vm := s.vm } : State) [] (0 + 1) (0 + 6) := ⟨e1, e2⟩
    have h3 := X.same.trans h2
    rw [List.append_nil] at h3
    exact h3.mono hc hs
  refine ⟨U, ?_, .threw T.heap.size, hrun, hend, Or.inr ⟨T.heap.size, rfl, cls, ce, locs, hx U hWs.alike f1 (fun q hq => f2 q hq (fun z hz => nomatch hz)), hce, hO.vm, hcl, hWs, hall, hf⟩⟩
  refine st1 _ ?_
  show Steps p.tables e below (T1.setTop { method := m, pc := pc + 3, locals := ls, stack := .ref T.heap.size :: rest, locked := none }) _
  jvm_step X₁.here [X₁.here.top, hexec, d3', Value.category]
  exact X₁.ldcStringW hexec (own := own) (text := text) (index := is) (a := sa) hown' hstr'.1 hstr'.2
    (g := { method := m, pc := pc + 4, locals := ls, stack := .ref T.heap.size :: .ref T.heap.size :: rest, locked := none }) rfl d4' _ hsteps
end Ends
section Bodies
variable {l : Launch}
theorem vx_ofW {y : MethodName} {ws ws' : List Cond} {rm : Room} {Pc : Array Value → State → Prop} {Qc : Array Value → State → Outcome → State → Prop} {XC : String → State → State → Prop} {mc ms : Nat} {free : Addr → Prop} {cc : ByteArray} {maxL : Nat} {ret : Option FieldType}
    (hy : plainName y.cls = true) (hw : ws = Cond.code y cc maxL ret :: ws')
    (body : ∀ p e s m args below meth c s₁, BodyLoose p l y (headSpec ws rm) cc maxL ret e s m args below meth c s₁ → c.maxLocals = maxL → (∀ x ∈ c.exceptionTable.toList, False) → Pc args s →
      W p l e (headSpec ws rm).room s m args below meth c s.heap [] 0 0 (vx_MQ below Qc XC args s mc ms free) (entryFrame m args maxL)) : vx_Met l y ws rm Pc Qc XC mc ms free := by
  refine MetFree.of_bodyS (code := cc) (maxLocals := maxL) (ret := ret) hy ?_ ?_
  · intro args s m h hn
    obtain ⟨meth, c, h1, h2, h3, h4, h5, h6, -, -⟩ := Cond.code_spec hn (atoms_spec (ws := ws) h _ (by rw [hw]; exact List.mem_cons_self))
    exact ⟨meth, c, h1, h2, h3, h4, h5, h6⟩
  · intro p e s m args below meth c s₁ B hml hP _
    have hh0 : s₁.heap = s.heap := by rw [B.state]; rfl
    have ht : ∀ x ∈ c.exceptionTable.toList, False := by
      obtain ⟨meth9, c9, h1, h2, -, -, -, -, h7, -⟩ := Cond.code_spec B.named (atoms_spec (ws := ws) B.pre _ (by rw [hw]; exact List.mem_cons_self))
      cases Option.some.inj (h1.symm.trans B.method)
      cases Option.some.inj (h2.symm.trans (Stand.of_body B).code)
      intro x hx
      rw [Array.isEmpty_iff.mp h7] at hx
      cases hx
    obtain ⟨t, a1, o, b1, b2, b3⟩ := body p e s m args below meth c s₁ B hml ht hP s₁ hh0 (Stand.of_body B)
    exact ⟨t, o, a1, b1, b2, b3⟩
/-- the table of a body with handlers -/
theorem vx_table {p : Program} {x y : MethodName} {S : Spec} {cc bytes : ByteArray} {maxL maxL' : Nat} {ret ret' : Option FieldType} {e : Env} {s s₁ : State} {m : MethodId} {args : Array Value} {below : List Frame} {meth : Method} {c : Code} {hh : List (Nat × Nat × Nat × Nat)}
    (B : BodyLoose p l y S cc maxL ret e s m args below meth c s₁) (h : (Cond.codeWith y bytes maxL' ret' hh).before args s = true) : c.exceptionTable.toList = tableOf hh := by
  obtain ⟨m9, meth9, c9, hn9, h1, h2, -, -, h6, -⟩ := Cond.codeWith_spec h
  cases Option.some.inj (hn9.symm.trans B.named)
  cases Option.some.inj (h1.symm.trans B.method)
  cases Option.some.inj (h2.symm.trans (Stand.of_body B).code)
  rw [← h6, table_eq]
end Bodies
end VXA
/-! ===== END ===== -/
/-! ===== BEGIN a static call of a method with an exception table ===== -/
section VXS
variable {p : Program} {l : Launch} {e : Env} {R : Room} {s : State} {m : MethodId} {args : Array Value} {below : List Frame} {meth : Method} {c : Code} {T : State} {H : Heap} {locs : List Loc} {cells slots : Nat}
abbrev vx_CSW (R : Room) (s : State) (args : Array Value) (own : String) (index : Nat) (y : MethodName) (bytes : ByteArray) (maxL : Nat) (ret : Option FieldType) (hh : List (Nat × Nat × Nat × Nat)) (ws : List Cond) (rm : Room) (mc ms n : Nat) : Prop :=
  (rm.cells = mc ∧ rm.slots = ms ∧ rm.frames + 1 ≤ R.frames ∧ 8 + (maxL + 11) + rm.locals ≤ R.locals ∧ (∀ w ∈ ws, ∀ (a' : Array Value) (U : State), s.WarmedH U.vm → w.before a' U = true) ∧ Cond.codeWith y bytes maxL ret hh ∈ ws) ∧
  (Cond.codeWith y bytes maxL ret hh).before args s = true ∧ (Cond.initialized y.cls).before args s = true ∧ (y.cls ≠ "java/lang/invoke/MethodHandle" ∧ y.cls ≠ "java/lang/invoke/VarHandle") ∧
  (∀ sig, parseMethodDescriptor y.desc = some sig → n = sig.parameters.length) ∧ (Cond.methodLink own index y).before args s = true ∧ (Cond.static y).before args s = true
theorem vx_cwSW {own : String} {index maxL mc ms : Nat} {y : MethodName} {bytes : ByteArray} {ret : Option FieldType} {hh : List (Nat × Nat × Nat × Nat)} {Ts ws ws' : List Cond} {rm : Room} (n : Nat) (ht : ∀ w ∈ Ts, w.before args s = true) (hT : GoodIn Ts (va_wsS own index y ws)) (hw : ws = Cond.codeWith y bytes maxL ret hh :: ws') (hrc : rm.cells = mc) (hrs : rm.slots = ms)
    (hd : y.cls ≠ "java/lang/invoke/MethodHandle" ∧ y.cls ≠ "java/lang/invoke/VarHandle" ∧ (parseMethodDescriptor y.desc).map (fun d => d.parameters.length) = some n) (hR : rm.frames + 1 ≤ R.frames ∧ 8 + (maxL + 11) + rm.locals ≤ R.locals) :
    vx_CSW R s args own index y bytes maxL ret hh ws rm mc ms n := by
  have ok : ∀ w ∈ va_wsS own index y ws, w.before args s = true := fun w h => ht w (hT w h).1
  have hG : GoodIn Ts ws := fun w h => hT w (by unfold va_wsS; exact List.mem_append_right _ h)
  have hc : Cond.codeWith y bytes maxL ret hh ∈ ws := by rw [hw]; exact List.mem_cons_self
  refine ⟨⟨hrc, hrs, hR.1, hR.2, pay_in ht hG, hc⟩, ht _ (hG _ hc).1, ok _ (by simp [va_wsS]), ⟨hd.1, hd.2.1⟩, fun sig h => ?_, ok _ (by simp [va_wsS]), ok _ (by simp [va_wsS])⟩
  have h2 := hd.2.2
  rw [h] at h2
  exact (Option.some.inj h2).symm
theorem vx_callSW (X : Stand p l e R s m args below meth c T locs cells slots) (hexec : p.tables.exec = Jvm.exec) {own : String} {index : Nat} {y : MethodName} {bytes : ByteArray} {maxL : Nat} {ret : Option FieldType} {hh : List (Nat × Nat × Nat × Nat)}
    (hown : s.vm.findClass own = some m.cls) (hlink : (Cond.methodLink own index y).before args s = true) (hstat : (Cond.static y).before args s = true) (hinit : (Cond.initialized y.cls).before args s = true)
    (hcode : (Cond.codeWith y bytes maxL ret hh).before args s = true) (hy : y.cls ≠ "java/lang/invoke/MethodHandle" ∧ y.cls ≠ "java/lang/invoke/VarHandle")
    {W9 : Nat} {Pre : Pt → Array Value → Prop} {Post : Pt → Array Value → Option Value → Pt → Prop} (hK : Back l R p e below s args y 3 W9 Pre Post)
    {g : JFrame} (hg : g.method = m) (hsize : g.locals.size = c.maxLocals) {argsL rest : List Value} (hlen : ∀ sig, parseMethodDescriptor y.desc = some sig → argsL.length = sig.parameters.length)
    (hstack : g.stack = argsL.reverse ++ rest) (hW : 2 * g.monitorRoom + (rest.map fun v => v.category).sum ≤ W9) (hdg : decode c.code g.pc = .ok (.invokestatic index, 3))
    (hpre : ∀ vm₁, s.WarmedH vm₁ → Pre ⟨T.setVm vm₁, locs, cells, slots⟩ argsL.toArray) :
    ∃ (v : Option Value) (vm₁ : Vm) (B : Pt), s.WarmedH vm₁ ∧ Stand p l e R s m args below meth c B.U B.locs B.cells B.slots ∧ Post ⟨T.setVm vm₁, locs, cells, slots⟩ argsL.toArray v B ∧
      ∀ target, Steps p.tables e below (B.U.setTop { g with pc := g.pc + 3, stack := v.toList ++ rest }) target → Steps p.tables e below (T.setTop g) target := by
  obtain ⟨mk, methM, cM, hnamed, hmethM, -, -, -, -, -, -, hsigM⟩ := Cond.codeWith_spec hcode
  have hstatic : methM.isStatic = true := Cond.static_spec hnamed hmethM hstat
  obtain ⟨kP, hkP, -⟩ := className_of_methodNamed hnamed
  have hinitP : kP.init = .initialized := Cond.initialized_spec (findClass_of_methodNamed hnamed) hkP hinit
  obtain ⟨vm₁, X₁, hstep₁⟩ := X.invokestatic hexec hown hlink hnamed hmethM hstatic hkP hinitP hy (g := g) hg (argsL := argsL) (rest := rest) (hlen _ hsigM) hstack hdg
  obtain ⟨v, B, X', hpost, hsteps⟩ := hK m meth c ⟨T.setVm vm₁, locs, cells, slots⟩ { g with stack := rest } (.invokestatic index) mk argsL.toArray X₁ hg hsize hdg hW (X₁.named hnamed) (hpre vm₁ X₁.warmed)
  exact ⟨v, vm₁, B, X₁.warmed, X', hpost, fun target h => hstep₁ _ fun acts => by rw [doInvoke_state]; exact hsteps.trans h⟩
theorem vx_runSW {y : MethodName} {bytes cc : ByteArray} {maxL nL mc ms n index : Nat} {ret : Option FieldType} {hh : List (Nat × Nat × Nat × Nat)} {ws : List Cond} {rm : Room} {Pc : Array Value → State → Prop} {Qc : Array Value → State → Outcome → State → Prop} {free : Addr → Prop} {Ts : List Cond} {own : String} {As rest : List Value} {g : JFrame}
    (S : CallFix p m c cc nL s args Ts own) (hM : Met l y ws rm Pc Qc mc ms free) (cw : vx_CSW R s args own index y bytes maxL ret hh ws rm mc ms n) (hp : PreS s H Pc As)
    (hg : g.method = m) (hn : As.length = n) (hsize : g.locals.size = nL) (hstack : g.stack = As.reverse ++ rest) (hW : 2 * g.monitorRoom + (rest.map fun v => v.category).sum ≤ 8) (hdg : decode cc g.pc = .ok (.invokestatic index, 3)) (hf : cells + mc ≤ R.cells ∧ slots + ms ≤ R.slots) :
    va_Run p l e R s m args below meth c H locs cells slots mc ms g rest (Qc As.toArray) (free) := by
  obtain ⟨⟨hrc, hrs, hfr, hlo, hws, hcw⟩, hcode, hini, hy, hlen, hl, hstt⟩ := cw
  have hK : Back l R p e below s args y 3 8 (PreOf R mc ms Pc) (PostOf Qc mc ms free) := va_backW (hh := hh) (bytes := bytes) (maxL := maxL) (ret := ret) hM hp.1 hrc hrs hfr hlo hws hcw (fun a' U hW => word_at hW (Or.inl (by first | rfl | simp [Cond.onTables, Cond.keeps, Cond.steady])) hini)
  obtain ⟨hx, hb, hml, ho, -⟩ := S
  intro T hT X
  obtain ⟨v, vm₁, ⟨U', l2, c2, s2⟩, hW₁, X', ⟨g', mk, t, L, e1, e2, hq, h1, hL, h2, h3⟩, st⟩ := vx_callSW X hx (hh := hh) (bytes := bytes) (maxL := maxL) (ret := ret) ho hl hstt hini hcode hy hK hg (hsize.trans hml.symm) (argsL := As) (rest := rest) (fun sig h => hn.trans (hlen sig h)) hstack hW (by rw [hb]; exact hdg)
    (fun vm₁ hW₁ => ⟨hf.1, hf.2, hp.2 (T.setVm vm₁) hT hW₁⟩)
  dsimp only [Pt.U, Pt.locs, Pt.cells, Pt.slots] at X' e1 e2 h1 h2 h3 st
  subst h1; subst h2; subst h3
  exact ⟨v, (T.setVm vm₁).calling g' mk As.toArray, t, U', L, hT, X', hL, e1, e2, hq, st⟩
/-- not caught here, past rows that name other classes: it goes on to the caller -/
theorem vx_outP {p : Program} {l : Launch} {e : Env} {R : Room} {s : State} {m : MethodId} {args : Array Value} {below : List Frame} {meth : Method} {c : Code} {H : Heap} {locs : List Loc} {cells slots : Nat} {free : Addr → Prop} {ls : Array Slot} {rest : List Value} {Qc : Array Value → State → Outcome → State → Prop} {XC : String → State → State → Prop}
    {pc : Nat} {own E : String} {ce : Cell} {q : Addr} {mc ms : Nat} (hown : s.vm.findClass own = some m.cls) (hlocks : meth.locks = false)
    (hpass : ∀ z ∈ c.exceptionTable.toList, covers z pc = false ∨ (z.catchType ≠ 0 ∧ ∃ nm : String, (Cond.classLink own z.catchType nm).before args s = true ∧ va_Nc E nm s)) (hcell : H[q]? = some ce) (hv : ce.vm = .none) (hcl : s.vm.findClass E = some ce.cls)
    (hx : ∀ t : State, t.heap = H → s.vm.Alike t.vm → XC E s t) (hf : ∀ z ∈ locs, free z.base) (hc : cells ≤ mc) (hs : slots ≤ ms) :
    vx_W p l e R s m args below meth c H locs cells slots (vx_MQ below Qc XC args s mc ms free) (F0 m pc ls rest) q := by
  intro T hT X
  have hpl : e.platform.magicAccessors = ({} : Platform).magicAccessors := by rw [X.admits.platform]
  obtain ⟨vm', hW', X', st⟩ := X.outThrough hlocks q (g := F0 m pc ls rest) rfl rfl rfl (cell := ce) (by rw [hT]; exact hcell) (by rw [hv]; rfl)
    (by obtain ⟨k9, h9, -⟩ := Vm.findClass_spec hcl; exact ⟨k9, h9⟩) (fun z hz => by
      rcases hpass z hz with h | ⟨hz0, nm, hl1, hn1⟩
      · exact Or.inl h
      · obtain ⟨c6, hc6, hcl6⟩ := Cond.classLink_spec hown hl1 e.platform hpl
        obtain ⟨a8, b8, h1, h2, h3⟩ := hn1
        cases Option.some.inj (h1.symm.trans hcl)
        cases Option.some.inj (h2.symm.trans hc6)
        exact Or.inr ⟨hz0, _, hcl6, h3⟩)
  obtain ⟨g₀, hfr⟩ := X'.frames_eq
  have hcell9 : ((T.setVm vm').setFrames (.throwing q :: below)).heap[q]? = some ce := by
    show T.heap[q]? = some ce
    rw [hT]; exact hcell
  have hend : Ended ((T.setVm vm').setFrames (.throwing q :: below)) below (.threw q) := State.frames_setFrames _ (State.cur_lt_of_frames hfr)
  refine ⟨(T.setVm vm').setFrames (.throwing q :: below), ?_, .threw q, X'.here.running, hend, Or.inr ⟨q, rfl, E, ce, locs, hx _ hT (X'.ends _).1.alike, hcell9, hv, hcl, (X'.ends _).1, (X'.ends _).2.mono hc hs, hf⟩⟩
  rw [X.pushThrowing_eq]
  exact st
/-- a thing of a world lies in the heap -/
theorem vx_lt {D : va_G} {cl : List vw_C} {ws : va_W} {H1 : Heap} (h : va_P D cl ws H1) {k : Nat} {q : Nat × va_E} (hk : ws[k]? = some q) : q.1 < H1.size := (h k q hk).lt
end VXS
/-! ===== END ===== -/
/-! ===== BEGIN methods with a table of their own: called by a name, returning or throwing ===== -/
section VXH
/-! vx_backW, vx_callVX, vx_callSX, vx_callVW, vx_runVW, vx_runVX, vx_runSX, vx_ofWH follow the same proofs as their sisters above (Free/Laws.lean, Shelf42/LK1.lean); vx_outP calls Shelf42/NT130.lean (outThrough). -/
section
variable {l : Launch} {R : Room} {p : Program} {e : Env} {below : List Frame} {s : State} {sargs : Array Value} {y : MethodName} {len W9 : Nat}
theorem vx_backW {ws : List Cond} {rm : Room} {Pc : Array Value → State → Prop} {Qc : Array Value → State → Outcome → State → Prop} {XC : String → State → State → Prop} {mc ms : Nat} {free : Addr → Prop} {bytes : ByteArray} {maxL : Nat} {ret : Option FieldType} {hh : List (Nat × Nat × Nat × Nat)}
    (hM : vx_Met l y ws rm Pc Qc XC mc ms free) (hblind : FrameBlind Pc) (hrc : rm.cells = mc) (hrs : rm.slots = ms)
    (hframes : rm.frames + 1 ≤ R.frames) (hlocals : W9 + (maxL + 11) + rm.locals ≤ R.locals)
    (hws : ∀ w ∈ ws, ∀ a' U, s.WarmedH U.vm → w.before a' U = true) (hcode : Cond.codeWith y bytes maxL ret hh ∈ ws) (hinit : ∀ a' U, s.WarmedH U.vm → (Cond.initialized y.cls).before a' U = true) :
    vx_Back l R p e below s sargs y len W9 (PreOf R mc ms Pc) (PostOf Qc mc ms free) (vx_Post XC mc ms free) := by
  intro m meth c A g ig mk a X hg hsize hdg hW hn hp
  have h1 : (headSpec ws rm).pre.before a A.U = true := atoms_intro fun w hw => hws w hw _ _ X.warmed
  have h2 : (Cond.codeWith y bytes maxL ret hh).before a A.U = true := hws _ hcode _ _ X.warmed
  have h3 : (Cond.initialized y.cls).before a A.U = true := hinit _ _ X.warmed
  have h4 : A.cells + (headSpec ws rm).room.cells ≤ R.cells := by rw [show (headSpec ws rm).room.cells = mc from hrc]; exact hp.1
  have h5 : A.slots + (headSpec ws rm).room.slots ≤ R.slots := by rw [show (headSpec ws rm).room.slots = ms from hrs]; exact hp.2.1
  have hPc : Pc a (A.U.calling g mk a) := hblind _ _ _ _ hp.2.2
  obtain ⟨U, Ls, c0, s0⟩ := A
  dsimp only [Pt.U, Pt.locs, Pt.cells, Pt.slots] at h1 h2 h3 h4 h5 X hn hPc ⊢
  obtain ⟨m9, methY, cY, hn9, hmY, hcY, -, hlY, -⟩ := Cond.codeWith_spec h2
  cases Option.some.inj (hn9.symm.trans hn)
  obtain ⟨kY, hkY, -⟩ := className_of_methodNamed hn
  have hinitY : kY.init = .initialized := Cond.initialized_spec (findClass_of_methodNamed hn) hkY h3
  have h : At U g.method c below := by rw [hg]; exact X.here
  have hlocals9 : W9 + (maxL + 11) + (headSpec ws rm).room.locals ≤ R.locals := hlocals
  have happ : (headSpec ws rm).appliesLoose y e.platform (U.calling g mk a) = true :=
    Spec.appliesLoose_calling (g := g) h hdg hn hkY hinitY
      (X.room_calling (g := g) (R' := (headSpec ws rm).room) hsize hmY hcY hframes (by rw [hlY]; omega) h4 h5) h1
  obtain ⟨mid, hmid⟩ := h.above
  have hfr : (U.setTop g).frames = (.java g :: mid) ++ below := by rw [State.frames_setTop' g h.top, hmid]; rfl
  obtain ⟨o, s₂, hsteps, -, hend, hq⟩ := Steps.callFree hM p X.admits X.cas X.clock (acts := []) hfr happ hPc trivial
  have hq' : vx_Q Qc XC mc ms free a (U.calling g mk a) o s₂ := hq
  rw [State.frames_setTop' g h.top] at hend
  obtain ⟨g₀, hg0⟩ := Option.isSome_iff_exists.mp h.top
  obtain ⟨r, hr⟩ := State.topJava?_eq_some.mp hg0
  have hr' : (({ U with heap := s₂.heap, slotsUsed := s₂.slotsUsed } : State).setVm s₂.vm).frames = .java g₀ :: r := hr
  rcases hq' with ⟨hqc, L, hfe, hL⟩ | ⟨q, rfl, E, ce, L, hx, hce, hcv, hcl, hW₂, hsm, hL⟩
  · obtain ⟨⟨v, rfl⟩, hW₂, e2, q2, q3, q4, q5, q6⟩ := id hfe
    have e3 : s₂ = ({ (U.calling g mk a).setFrames s₂.frames with heap := s₂.heap, slotsUsed := s₂.slotsUsed } : State).setVm s₂.vm := by
      have : s₂ = ({ s₂ with vm := (U.calling g mk a).vm } : State).setVm s₂.vm := rfl
      rw [e2] at this
      exact this
    obtain ⟨c₂, i₂, len₂, hc₂, hd₂, hf₂⟩ := hend
    have hW' : U.WarmedH s₂.vm := hW₂
    have hcc : c₂ = c := by
      have h1 : s₂.code? g.method = U.code? g.method := by
        rw [State.code?_eq, State.code?_eq, hW'.alike.method?]
      exact Option.some.inj (hc₂.symm.trans (h1.trans h.code))
    subst hcc
    have hlen : len₂ = len := by rw [hdg] at hd₂; cases hd₂; rfl
    subst hlen
    have hs₂ : s₂ = (({ U with heap := s₂.heap, slotsUsed := s₂.slotsUsed } : State).setVm s₂.vm).setTop { g with pc := g.pc + len₂, stack := v.toList ++ g.stack } := by
      refine e3.trans ?_
      rw [hf₂, State.calling_eq h.top, State.setFrames_setFrames, State.setTop_of_frames _ hr', hr]
      rfl
    have hsame : U.sameButNew ({ U with heap := s₂.heap, slotsUsed := s₂.slotsUsed } : State) L mc ms := by
      refine ⟨?_, q2, q3, q4, q5, q6⟩
      obtain ⟨t, ht, -⟩ := State.frames_cons hr
      show ({ U with heap := s₂.heap, slotsUsed := s₂.slotsUsed } : State) = { U.setFrames U.frames with heap := s₂.heap, slotsUsed := s₂.slotsUsed }
      rw [State.setFrames_self ht]
    subst hg
    refine Or.inl ⟨v, ⟨(({ U with heap := s₂.heap, slotsUsed := s₂.slotsUsed } : State).setVm s₂.vm), Ls ++ L, c0 + mc, s0 + ms⟩,
      ⟨X.admits, X.cas, X.clock, X.frames, X.room, X.hears, X.method, X.code, (X.here.setHeapUsed s₂.heap s₂.slotsUsed).setVm hW'.alike, X.tail, State.WarmedH.trans X.warmed hW', X.limits, X.bytes, X.same.trans (hsame.setVm s.vm)⟩,
      ⟨g, mk, s₂, L, rfl, rfl, hqc, rfl, hL, rfl, rfl⟩, ?_⟩
    show Steps p.tables e below _ ((({ U with heap := s₂.heap, slotsUsed := s₂.slotsUsed } : State).setVm s₂.vm).setTop { g with pc := g.pc + len₂, stack := v.toList ++ g.stack })
    rw [← hs₂]
    exact hsteps
  · obtain ⟨e2, q2, q3, q4, q5, q6⟩ := id hsm
    have e3 : s₂ = ({ (U.calling g mk a).setFrames s₂.frames with heap := s₂.heap, slotsUsed := s₂.slotsUsed } : State).setVm s₂.vm := by
      have : s₂ = ({ s₂ with vm := (U.calling g mk a).vm } : State).setVm s₂.vm := rfl
      rw [e2] at this
      exact this
    have hf₂ : s₂.frames = .throwing q :: .java g :: U.frames.tail := hend
    have hW' : U.WarmedH s₂.vm := hW₂
    have hs₂ : s₂ = ((({ U with heap := s₂.heap, slotsUsed := s₂.slotsUsed } : State).setVm s₂.vm).setTop g).pushFrame (.throwing q) := by
      refine e3.trans ?_
      rw [hf₂, State.calling_eq h.top, State.setFrames_setFrames, State.pushFrame, State.frames_setTop _ hr', State.setTop_of_frames _ hr', State.setFrames_setFrames, hr]
      rfl
    have hsame : U.sameButNew ({ U with heap := s₂.heap, slotsUsed := s₂.slotsUsed } : State) L mc ms := by
      refine ⟨?_, q2, q3, q4, q5, q6⟩
      obtain ⟨t, ht, -⟩ := State.frames_cons hr
      show ({ U with heap := s₂.heap, slotsUsed := s₂.slotsUsed } : State) = { U.setFrames U.frames with heap := s₂.heap, slotsUsed := s₂.slotsUsed }
      rw [State.setFrames_self ht]
    subst hg
    refine Or.inr ⟨q, ⟨(({ U with heap := s₂.heap, slotsUsed := s₂.slotsUsed } : State).setVm s₂.vm), Ls ++ L, c0 + mc, s0 + ms⟩,
      ⟨X.admits, X.cas, X.clock, X.frames, X.room, X.hears, X.method, X.code, (X.here.setHeapUsed s₂.heap s₂.slotsUsed).setVm hW'.alike, X.tail, State.WarmedH.trans X.warmed hW', X.limits, X.bytes, X.same.trans (hsame.setVm s.vm)⟩,
      ⟨g, mk, s₂, L, E, ce, rfl, rfl, hx, hce, hcv, hcl, rfl, hL, rfl, rfl⟩, ?_⟩
    show Steps p.tables e below _ (((({ U with heap := s₂.heap, slotsUsed := s₂.slotsUsed } : State).setVm s₂.vm).setTop g).pushFrame (.throwing q))
    rw [← hs₂]
    exact hsteps
end
variable {p : Program} {l : Launch} {e : Env} {R : Room} {s : State} {m : MethodId} {args : Array Value} {below : List Frame} {meth : Method} {c : Code} {T : State} {H : Heap} {locs : List Loc} {cells slots : Nat}
theorem vx_callVX (X : Stand p l e R s m args below meth c T locs cells slots) (hexec : p.tables.exec = Jvm.exec) {own C : String} {index : Nat} {y : MethodName} {bytes : ByteArray} {maxL : Nat} {ret : Option FieldType} {hh : List (Nat × Nat × Nat × Nat)}
    (hown : s.vm.findClass own = some m.cls) (hlink : (Cond.methodLink own index y).before args s = true) (hinst : (Cond.instanceMethod y).before args s = true) (hsel : (Cond.selects C y y).before args s = true)
    (hcode : (Cond.codeWith y bytes maxL ret hh).before args s = true) (hy : y.cls ≠ "java/lang/invoke/MethodHandle" ∧ y.cls ≠ "java/lang/invoke/VarHandle")
    {W9 : Nat} {Pre : Pt → Array Value → Prop} {Post : Pt → Array Value → Option Value → Pt → Prop} {PostX : Pt → Array Value → Addr → Pt → Prop} (hK : vx_Back l R p e below s args y 3 W9 Pre Post PostX)
    {b : Addr} {cellB : Cell} (hcell : T.heap[b]? = some cellB) (hobj : cellB.vm.isStatics = false) (hcls : s.vm.findClass C = some cellB.cls)
    {g : JFrame} (hg : g.method = m) (hsize : g.locals.size = c.maxLocals) {argsL rest : List Value} (hlen : ∀ sig, parseMethodDescriptor y.desc = some sig → argsL.length = sig.parameters.length)
    (hstack : g.stack = argsL.reverse ++ .ref b :: rest) (hW : 2 * g.monitorRoom + (rest.map fun v => v.category).sum ≤ W9) (hdg : decode c.code g.pc = .ok (.invokevirtual index, 3))
    (hpre : ∀ vm₁, s.WarmedH vm₁ → Pre ⟨T.setVm vm₁, locs, cells, slots⟩ (Value.ref b :: argsL).toArray) :
    (∃ (v : Option Value) (vm₁ : Vm) (B : Pt), s.WarmedH vm₁ ∧ Stand p l e R s m args below meth c B.U B.locs B.cells B.slots ∧ Post ⟨T.setVm vm₁, locs, cells, slots⟩ (Value.ref b :: argsL).toArray v B ∧
      ∀ target, Steps p.tables e below (B.U.setTop { g with pc := g.pc + 3, stack := v.toList ++ rest }) target → Steps p.tables e below (T.setTop g) target) ∨
    (∃ (q : Addr) (vm₁ : Vm) (B : Pt), s.WarmedH vm₁ ∧ Stand p l e R s m args below meth c B.U B.locs B.cells B.slots ∧ PostX ⟨T.setVm vm₁, locs, cells, slots⟩ (Value.ref b :: argsL).toArray q B ∧
      Steps p.tables e below (T.setTop g) ((B.U.setTop { g with stack := rest }).pushFrame (.throwing q))) := by
  obtain ⟨mk, methM, hnamed, hmethM, hstM, habM⟩ := Cond.instanceMethod_spec hinst
  obtain ⟨m8, methM', cM, hn8, hmethM', -, -, -, -, -, -, hsigM⟩ := Cond.codeWith_spec hcode
  cases Option.some.inj (hn8.symm.trans hnamed)
  cases hmethM.symm.trans hmethM'
  obtain ⟨c2, r2, m2, q1, q2, q3, q4, kP, hkP, hkPi⟩ := Cond.selects_spec hsel
  cases hcls.symm.trans q1
  cases (State.methodFound?_of_named hnamed hy).symm.trans q2
  cases hnamed.symm.trans q3
  have hselP : selectMethod e.platform s.vm cellB.cls mk = .method mk := by rw [Launch.admits_selectMethod X.admits]; exact q4
  obtain ⟨vm₁, X₁, hstep₁⟩ := X.invokevirtual hexec hown hlink hnamed hmethM hstM hkP hkPi hy (a := b) (cell := cellB) hcell
    (fun z h => by rw [h] at hobj; cases hobj) hselP hmethM habM hkP hkPi (g := g) hg (argsL := argsL) (rest := rest) (hlen _ hsigM) hstack hdg
  rcases hK m meth c ⟨T.setVm vm₁, locs, cells, slots⟩ { g with stack := rest } (.invokevirtual index) mk (Value.ref b :: argsL).toArray X₁ hg hsize hdg hW (X₁.named hnamed) (hpre vm₁ X₁.warmed) with ⟨v, B, X', hpost, hsteps⟩ | ⟨q, B, X', hpost, hsteps⟩
  · exact Or.inl ⟨v, vm₁, B, X₁.warmed, X', hpost, fun target h => hstep₁ _ fun acts => by rw [doInvoke_state]; exact hsteps.trans h⟩
  · exact Or.inr ⟨q, vm₁, B, X₁.warmed, X', hpost, hstep₁ _ fun acts => by rw [doInvoke_state]; exact hsteps⟩
theorem vx_callSX (X : Stand p l e R s m args below meth c T locs cells slots) (hexec : p.tables.exec = Jvm.exec) {own : String} {index : Nat} {y : MethodName} {bytes : ByteArray} {maxL : Nat} {ret : Option FieldType} {hh : List (Nat × Nat × Nat × Nat)}
    (hown : s.vm.findClass own = some m.cls) (hlink : (Cond.methodLink own index y).before args s = true) (hstat : (Cond.static y).before args s = true) (hinit : (Cond.initialized y.cls).before args s = true)
    (hcode : (Cond.codeWith y bytes maxL ret hh).before args s = true) (hy : y.cls ≠ "java/lang/invoke/MethodHandle" ∧ y.cls ≠ "java/lang/invoke/VarHandle")
    {W9 : Nat} {Pre : Pt → Array Value → Prop} {Post : Pt → Array Value → Option Value → Pt → Prop} {PostX : Pt → Array Value → Addr → Pt → Prop} (hK : vx_Back l R p e below s args y 3 W9 Pre Post PostX)
    {g : JFrame} (hg : g.method = m) (hsize : g.locals.size = c.maxLocals) {argsL rest : List Value} (hlen : ∀ sig, parseMethodDescriptor y.desc = some sig → argsL.length = sig.parameters.length)
    (hstack : g.stack = argsL.reverse ++ rest) (hW : 2 * g.monitorRoom + (rest.map fun v => v.category).sum ≤ W9) (hdg : decode c.code g.pc = .ok (.invokestatic index, 3))
    (hpre : ∀ vm₁, s.WarmedH vm₁ → Pre ⟨T.setVm vm₁, locs, cells, slots⟩ argsL.toArray) :
    (∃ (v : Option Value) (vm₁ : Vm) (B : Pt), s.WarmedH vm₁ ∧ Stand p l e R s m args below meth c B.U B.locs B.cells B.slots ∧ Post ⟨T.setVm vm₁, locs, cells, slots⟩ argsL.toArray v B ∧
      ∀ target, Steps p.tables e below (B.U.setTop { g with pc := g.pc + 3, stack := v.toList ++ rest }) target → Steps p.tables e below (T.setTop g) target) ∨
    (∃ (q : Addr) (vm₁ : Vm) (B : Pt), s.WarmedH vm₁ ∧ Stand p l e R s m args below meth c B.U B.locs B.cells B.slots ∧ PostX ⟨T.setVm vm₁, locs, cells, slots⟩ argsL.toArray q B ∧
      Steps p.tables e below (T.setTop g) ((B.U.setTop { g with stack := rest }).pushFrame (.throwing q))) := by
  obtain ⟨mk, methM, cM, hnamed, hmethM, -, -, -, -, -, -, hsigM⟩ := Cond.codeWith_spec hcode
  have hstatic : methM.isStatic = true := Cond.static_spec hnamed hmethM hstat
  obtain ⟨kP, hkP, -⟩ := className_of_methodNamed hnamed
  have hinitP : kP.init = .initialized := Cond.initialized_spec (findClass_of_methodNamed hnamed) hkP hinit
  obtain ⟨vm₁, X₁, hstep₁⟩ := X.invokestatic hexec hown hlink hnamed hmethM hstatic hkP hinitP hy (g := g) hg (argsL := argsL) (rest := rest) (hlen _ hsigM) hstack hdg
  rcases hK m meth c ⟨T.setVm vm₁, locs, cells, slots⟩ { g with stack := rest } (.invokestatic index) mk argsL.toArray X₁ hg hsize hdg hW (X₁.named hnamed) (hpre vm₁ X₁.warmed) with ⟨v, B, X', hpost, hsteps⟩ | ⟨q, B, X', hpost, hsteps⟩
  · exact Or.inl ⟨v, vm₁, B, X₁.warmed, X', hpost, fun target h => hstep₁ _ fun acts => by rw [doInvoke_state]; exact hsteps.trans h⟩
  · exact Or.inr ⟨q, vm₁, B, X₁.warmed, X', hpost, hstep₁ _ fun acts => by rw [doInvoke_state]; exact hsteps⟩
theorem vx_callVW (X : Stand p l e R s m args below meth c T locs cells slots) (hexec : p.tables.exec = Jvm.exec) {own C : String} {index : Nat} {y : MethodName} {bytes : ByteArray} {maxL : Nat} {ret : Option FieldType} {hh : List (Nat × Nat × Nat × Nat)}
    (hown : s.vm.findClass own = some m.cls) (hlink : (Cond.methodLink own index y).before args s = true) (hinst : (Cond.instanceMethod y).before args s = true) (hsel : (Cond.selects C y y).before args s = true)
    (hcode : (Cond.codeWith y bytes maxL ret hh).before args s = true) (hy : y.cls ≠ "java/lang/invoke/MethodHandle" ∧ y.cls ≠ "java/lang/invoke/VarHandle")
    {W9 : Nat} {Pre : Pt → Array Value → Prop} {Post : Pt → Array Value → Option Value → Pt → Prop} (hK : Back l R p e below s args y 3 W9 Pre Post)
    {b : Addr} {cellB : Cell} (hcell : T.heap[b]? = some cellB) (hobj : cellB.vm.isStatics = false) (hcls : s.vm.findClass C = some cellB.cls)
    {g : JFrame} (hg : g.method = m) (hsize : g.locals.size = c.maxLocals) {argsL rest : List Value} (hlen : ∀ sig, parseMethodDescriptor y.desc = some sig → argsL.length = sig.parameters.length)
    (hstack : g.stack = argsL.reverse ++ .ref b :: rest) (hW : 2 * g.monitorRoom + (rest.map fun v => v.category).sum ≤ W9) (hdg : decode c.code g.pc = .ok (.invokevirtual index, 3))
    (hpre : ∀ vm₁, s.WarmedH vm₁ → Pre ⟨T.setVm vm₁, locs, cells, slots⟩ (Value.ref b :: argsL).toArray) :
    ∃ (v : Option Value) (vm₁ : Vm) (B : Pt), s.WarmedH vm₁ ∧ Stand p l e R s m args below meth c B.U B.locs B.cells B.slots ∧ Post ⟨T.setVm vm₁, locs, cells, slots⟩ (Value.ref b :: argsL).toArray v B ∧
      ∀ target, Steps p.tables e below (B.U.setTop { g with pc := g.pc + 3, stack := v.toList ++ rest }) target → Steps p.tables e below (T.setTop g) target := by
  obtain ⟨mk, methM, hnamed, hmethM, hstM, habM⟩ := Cond.instanceMethod_spec hinst
  obtain ⟨m8, methM', cM, hn8, hmethM', -, -, -, -, -, -, hsigM⟩ := Cond.codeWith_spec hcode
  cases Option.some.inj (hn8.symm.trans hnamed)
  cases hmethM.symm.trans hmethM'
  obtain ⟨c2, r2, m2, q1, q2, q3, q4, kP, hkP, hkPi⟩ := Cond.selects_spec hsel
  cases hcls.symm.trans q1
  cases (State.methodFound?_of_named hnamed hy).symm.trans q2
  cases hnamed.symm.trans q3
  have hselP : selectMethod e.platform s.vm cellB.cls mk = .method mk := by rw [Launch.admits_selectMethod X.admits]; exact q4
  obtain ⟨vm₁, X₁, hstep₁⟩ := X.invokevirtual hexec hown hlink hnamed hmethM hstM hkP hkPi hy (a := b) (cell := cellB) hcell
    (fun z h => by rw [h] at hobj; cases hobj) hselP hmethM habM hkP hkPi (g := g) hg (argsL := argsL) (rest := rest) (hlen _ hsigM) hstack hdg
  obtain ⟨v, B, X', hpost, hsteps⟩ := hK m meth c ⟨T.setVm vm₁, locs, cells, slots⟩ { g with stack := rest } (.invokevirtual index) mk (Value.ref b :: argsL).toArray X₁ hg hsize hdg hW (X₁.named hnamed) (hpre vm₁ X₁.warmed)
  exact ⟨v, vm₁, B, X₁.warmed, X', hpost, fun target h => hstep₁ _ fun acts => by rw [doInvoke_state]; exact hsteps.trans h⟩
abbrev vx_CVW (R : Room) (s : State) (args : Array Value) (own C : String) (index : Nat) (y : MethodName) (bytes : ByteArray) (maxL : Nat) (ret : Option FieldType) (hh : List (Nat × Nat × Nat × Nat)) (ws : List Cond) (rm : Room) (mc ms n : Nat) : Prop :=
  (rm.cells = mc ∧ rm.slots = ms ∧ rm.frames + 1 ≤ R.frames ∧ 8 + (maxL + 11) + rm.locals ≤ R.locals ∧ (∀ w ∈ ws, ∀ (a' : Array Value) (U : State), s.WarmedH U.vm → w.before a' U = true) ∧ Cond.codeWith y bytes maxL ret hh ∈ ws) ∧
  (Cond.codeWith y bytes maxL ret hh).before args s = true ∧ (Cond.initialized y.cls).before args s = true ∧ (y.cls ≠ "java/lang/invoke/MethodHandle" ∧ y.cls ≠ "java/lang/invoke/VarHandle") ∧
  (∀ sig, parseMethodDescriptor y.desc = some sig → n = sig.parameters.length) ∧ (Cond.methodLink own index y).before args s = true ∧ (Cond.instanceMethod y).before args s = true ∧ (Cond.selects C y y).before args s = true
theorem vx_cwVW {own C : String} {index maxL mc ms : Nat} {y : MethodName} {bytes : ByteArray} {ret : Option FieldType} {hh : List (Nat × Nat × Nat × Nat)} {Ts ws ws' : List Cond} {rm : Room} (n : Nat) (ht : ∀ w ∈ Ts, w.before args s = true) (hT : GoodIn Ts (wsV own index C y ws)) (hw : ws = Cond.codeWith y bytes maxL ret hh :: ws') (hrc : rm.cells = mc) (hrs : rm.slots = ms)
    (hd : y.cls = C ∧ y.cls ≠ "java/lang/invoke/MethodHandle" ∧ y.cls ≠ "java/lang/invoke/VarHandle" ∧ (parseMethodDescriptor y.desc).map (fun d => d.parameters.length) = some n) (hR : rm.frames + 1 ≤ R.frames ∧ 8 + (maxL + 11) + rm.locals ≤ R.locals) :
    vx_CVW R s args own C index y bytes maxL ret hh ws rm mc ms n := by
  obtain ⟨hC, hd⟩ := hd
  subst hC
  have ok : ∀ w ∈ wsV own index y.cls y ws, w.before args s = true := fun w h => ht w (hT w h).1
  have hG : GoodIn Ts ws := fun w h => hT w (by unfold wsV; exact List.mem_append_right _ h)
  have hc : Cond.codeWith y bytes maxL ret hh ∈ ws := by rw [hw]; exact List.mem_cons_self
  refine ⟨⟨hrc, hrs, hR.1, hR.2, pay_in ht hG, hc⟩, ht _ (hG _ hc).1, ok _ (by simp [wsV]), ⟨hd.1, hd.2.1⟩, fun sig h => ?_, ok _ (by simp [wsV]), ok _ (by simp [wsV]), ok _ (by simp [wsV])⟩
  have h2 := hd.2.2
  rw [h] at h2
  exact (Option.some.inj h2).symm
theorem vx_runVW {y : MethodName} {bytes cc : ByteArray} {maxL nL mc ms n index : Nat} {ret : Option FieldType} {hh : List (Nat × Nat × Nat × Nat)} {ws : List Cond} {rm : Room} {Pc : Array Value → State → Prop} {Qc : Array Value → State → Outcome → State → Prop} {free : Addr → Prop} {Ts : List Cond} {own C : String} {b : Addr} {As rest : List Value} {g : JFrame}
    (S : CallFix p m c cc nL s args Ts own) (hM : Met l y ws rm Pc Qc mc ms free) (cw : vx_CVW R s args own C index y bytes maxL ret hh ws rm mc ms n) (hp : PreV s H C b Pc As)
    (hg : g.method = m) (hn : As.length = n) (hsize : g.locals.size = nL) (hstack : g.stack = As.reverse ++ .ref b :: rest) (hW : 2 * g.monitorRoom + (rest.map fun v => v.category).sum ≤ 8) (hdg : decode cc g.pc = .ok (.invokevirtual index, 3)) (hf : cells + mc ≤ R.cells ∧ slots + ms ≤ R.slots) :
    va_Run p l e R s m args below meth c H locs cells slots mc ms g rest (Qc (Value.ref b :: As).toArray) free := by
  obtain ⟨⟨hrc, hrs, hfr, hlo, hws, hcw⟩, hcode, hini, hy, hlen, hl, hin, hse⟩ := cw
  have hK : Back l R p e below s args y 3 8 (PreOf R mc ms Pc) (PostOf Qc mc ms free) := va_backW (hh := hh) (bytes := bytes) (maxL := maxL) (ret := ret) hM hp.1 hrc hrs hfr hlo hws hcw (fun a' U hW => word_at hW (Or.inl (by first | rfl | simp [Cond.onTables, Cond.keeps, Cond.steady])) hini)
  obtain ⟨hx, hb, hml, ho, -⟩ := S
  obtain ⟨-, ⟨cellB, hcB, hoB, hclB⟩, hPc⟩ := hp
  intro T hT X
  obtain ⟨v, vm₁, ⟨U', l2, c2, s2⟩, hW₁, X', ⟨g', mk, t, L, e1, e2, hq, h1, hL, h2, h3⟩, st⟩ := vx_callVW X hx (C := C) (hh := hh) (bytes := bytes) (maxL := maxL) (ret := ret) ho hl hin hse hcode hy hK (by rw [hT]; exact hcB) hoB hclB hg (hsize.trans hml.symm) (argsL := As) (rest := rest) (fun sig h => hn.trans (hlen sig h)) hstack hW (by rw [hb]; exact hdg)
    (fun vm₁ hW₁ => ⟨hf.1, hf.2, hPc (T.setVm vm₁) hT hW₁⟩)
  dsimp only [Pt.U, Pt.locs, Pt.cells, Pt.slots] at X' e1 e2 h1 h2 h3 st
  subst h1; subst h2; subst h3
  exact ⟨v, (T.setVm vm₁).calling g' mk (Value.ref b :: As).toArray, t, U', L, hT, X', hL, e1, e2, hq, st⟩
section
variable {y : MethodName} {bytes cc : ByteArray} {maxL nL mc ms n index : Nat} {ret : Option FieldType} {ws : List Cond} {rm : Room} {Pc : Array Value → State → Prop} {Qc : Array Value → State → Outcome → State → Prop} {XC : String → State → State → Prop} {free : Addr → Prop} {Ts : List Cond} {own C : String} {b : Addr} {As rest : List Value} {g : JFrame}
theorem vx_runVX {hh : List (Nat × Nat × Nat × Nat)} (S : CallFix p m c cc nL s args Ts own) (hM : vx_Met l y ws rm Pc Qc XC mc ms free) (cw : vx_CVW R s args own C index y bytes maxL ret hh ws rm mc ms n) (hp : PreV s H C b Pc As)
    (hg : g.method = m) (hn : As.length = n) (hsize : g.locals.size = nL) (hstack : g.stack = As.reverse ++ .ref b :: rest) (hW : 2 * g.monitorRoom + (rest.map fun v => v.category).sum ≤ 8) (hdg : decode cc g.pc = .ok (.invokevirtual index, 3)) (hf : cells + mc ≤ R.cells ∧ slots + ms ≤ R.slots) :
    vx_Run p l e R s m args below meth c H locs cells slots mc ms g rest (Qc (Value.ref b :: As).toArray) XC free := by
  obtain ⟨⟨hrc, hrs, hfr, hlo, hws, hcw⟩, hcode, hini, hy, hlen, hl, hin, hse⟩ := cw
  have hK : vx_Back l R p e below s args y 3 8 (PreOf R mc ms Pc) (PostOf Qc mc ms free) (vx_Post XC mc ms free) := vx_backW (hh := hh) (bytes := bytes) (maxL := maxL) (ret := ret) hM hp.1 hrc hrs hfr hlo hws hcw (fun a' U hW => word_at hW (Or.inl (by first | rfl | simp [Cond.onTables, Cond.keeps, Cond.steady])) hini)
  obtain ⟨hx, hb, hml, ho, -⟩ := S
  obtain ⟨-, ⟨cellB, hcB, hoB, hclB⟩, hPc⟩ := hp
  intro T hT X
  rcases vx_callVX X hx (C := C) (hh := hh) (bytes := bytes) (maxL := maxL) (ret := ret) ho hl hin hse hcode hy hK (by rw [hT]; exact hcB) hoB hclB hg (hsize.trans hml.symm) (argsL := As) (rest := rest) (fun sig h => hn.trans (hlen sig h)) hstack hW (by rw [hb]; exact hdg)
    (fun vm₁ hW₁ => ⟨hf.1, hf.2, hPc (T.setVm vm₁) hT hW₁⟩) with ⟨v, vm₁, ⟨U', l2, c2, s2⟩, hW₁, X', ⟨g', mk, t, L, e1, e2, hq, h1, hL, h2, h3⟩, st⟩ | ⟨q, vm₁, ⟨U', l2, c2, s2⟩, hW₁, X', ⟨g', mk, t, L, E, ce, e1, e2, hq, hce, hcv, hcl, h1, hL, h2, h3⟩, st⟩
  · dsimp only [Pt.U, Pt.locs, Pt.cells, Pt.slots] at X' e1 e2 h1 h2 h3 st
    subst h1; subst h2; subst h3
    exact Or.inl ⟨v, (T.setVm vm₁).calling g' mk (Value.ref b :: As).toArray, t, U', L, hT, X', hL, e1, e2, hq, st⟩
  · dsimp only [Pt.U, Pt.locs, Pt.cells, Pt.slots] at X' e1 e2 h1 h2 h3 st hcl
    subst h1; subst h2; subst h3
    exact Or.inr ⟨q, (T.setVm vm₁).calling g' mk (Value.ref b :: As).toArray, t, U', L, E, ce, hT, X', hL, e1, e2, hq, hce, hcv, vx_cls hW₁ hcl, st⟩
theorem vx_runSX {hh : List (Nat × Nat × Nat × Nat)} (S : CallFix p m c cc nL s args Ts own) (hM : vx_Met l y ws rm Pc Qc XC mc ms free) (cw : vx_CSW R s args own index y bytes maxL ret hh ws rm mc ms n) (hp : PreS s H Pc As)
    (hg : g.method = m) (hn : As.length = n) (hsize : g.locals.size = nL) (hstack : g.stack = As.reverse ++ rest) (hW : 2 * g.monitorRoom + (rest.map fun v => v.category).sum ≤ 8) (hdg : decode cc g.pc = .ok (.invokestatic index, 3)) (hf : cells + mc ≤ R.cells ∧ slots + ms ≤ R.slots) :
    vx_Run p l e R s m args below meth c H locs cells slots mc ms g rest (Qc As.toArray) XC free := by
  obtain ⟨⟨hrc, hrs, hfr, hlo, hws, hcw⟩, hcode, hini, hy, hlen, hl, hstt⟩ := cw
  have hK : vx_Back l R p e below s args y 3 8 (PreOf R mc ms Pc) (PostOf Qc mc ms free) (vx_Post XC mc ms free) := vx_backW (hh := hh) (bytes := bytes) (maxL := maxL) (ret := ret) hM hp.1 hrc hrs hfr hlo hws hcw (fun a' U hW => word_at hW (Or.inl (by first | rfl | simp [Cond.onTables, Cond.keeps, Cond.steady])) hini)
  obtain ⟨hx, hb, hml, ho, -⟩ := S
  intro T hT X
  rcases vx_callSX X hx (hh := hh) (bytes := bytes) (maxL := maxL) (ret := ret) ho hl hstt hini hcode hy hK hg (hsize.trans hml.symm) (argsL := As) (rest := rest) (fun sig h => hn.trans (hlen sig h)) hstack hW (by rw [hb]; exact hdg)
    (fun vm₁ hW₁ => ⟨hf.1, hf.2, hp.2 (T.setVm vm₁) hT hW₁⟩) with ⟨v, vm₁, ⟨U', l2, c2, s2⟩, hW₁, X', ⟨g', mk, t, L, e1, e2, hq, h1, hL, h2, h3⟩, st⟩ | ⟨q, vm₁, ⟨U', l2, c2, s2⟩, hW₁, X', ⟨g', mk, t, L, E, ce, e1, e2, hq, hce, hcv, hcl, h1, hL, h2, h3⟩, st⟩
  · dsimp only [Pt.U, Pt.locs, Pt.cells, Pt.slots] at X' e1 e2 h1 h2 h3 st
    subst h1; subst h2; subst h3
    exact Or.inl ⟨v, (T.setVm vm₁).calling g' mk As.toArray, t, U', L, hT, X', hL, e1, e2, hq, st⟩
  · dsimp only [Pt.U, Pt.locs, Pt.cells, Pt.slots] at X' e1 e2 h1 h2 h3 st hcl
    subst h1; subst h2; subst h3
    exact Or.inr ⟨q, (T.setVm vm₁).calling g' mk As.toArray, t, U', L, E, ce, hT, X', hL, e1, e2, hq, hce, hcv, vx_cls hW₁ hcl, st⟩
end
end VXH
theorem vx_ofWH {l : Launch} {y : MethodName} {ws ws' : List Cond} {rm : Room} {Pc : Array Value → State → Prop} {Qc : Array Value → State → Outcome → State → Prop} {XC : String → State → State → Prop} {mc ms : Nat} {free : Addr → Prop} {cc : ByteArray} {maxL : Nat} {ret : Option FieldType} {hh : List (Nat × Nat × Nat × Nat)}
    (hy : plainName y.cls = true) (hw : ws = Cond.codeWith y cc maxL ret hh :: ws')
    (body : ∀ p e s m args below meth c s₁, BodyLoose p l y (headSpec ws rm) cc maxL ret e s m args below meth c s₁ → c.maxLocals = maxL → Pc args s →
      W p l e (headSpec ws rm).room s m args below meth c s.heap [] 0 0 (vx_MQ below Qc XC args s mc ms free) (entryFrame m args maxL)) : vx_Met l y ws rm Pc Qc XC mc ms free := by
  refine MetFree.of_bodyS (code := cc) (maxLocals := maxL) (ret := ret) hy ?_ ?_
  · intro args s m h hn
    obtain ⟨m9, meth, c, hn9, h1, h2, h3, h4, -, h5, h6, -⟩ := Cond.codeWith_spec (atoms_spec (ws := ws) h _ (by rw [hw]; exact List.mem_cons_self))
    cases hn.symm.trans hn9
    exact ⟨meth, c, h1, h2, h3, h4, h5, h6⟩
  · intro p e s m args below meth c s₁ B hml hP _
    have hh0 : s₁.heap = s.heap := by rw [B.state]; rfl
    obtain ⟨t, a1, o, b1, b2, b3⟩ := body p e s m args below meth c s₁ B hml hP s₁ hh0 (Stand.of_body B)
    exact ⟨t, o, a1, b1, b2, b3⟩
/-! ===== END ===== -/
end
section
-- ===== PART A: goes FIRST, ahead of the names: the tables' words, and 'selects' of the private methods out of them =====
/-- a private method of a class that the tables say can be made, by its rows of tables_1 -/
def lw_okq (q : MethodName × Nat) : Prop := (q.1.cls ≠ "java/lang/invoke/MethodHandle" ∧ q.1.cls ≠ "java/lang/invoke/VarHandle") ∧ Cond.instantiable q.1.cls q.2 ∈ tables_1 ∧ Cond.privateMethod q.1 ∈ tables_1 ∧ Cond.instanceMethod q.1 ∈ tables_1
theorem lw_p0 : lw_okq (⟨"AmendsLedger", "codeAt", "(I)I"⟩, 7) := ⟨⟨by decide +kernel, by decide +kernel⟩, List.mem_of_getElem? (i := 19) (by decide +kernel), List.mem_of_getElem? (i := 193) (by decide +kernel), List.mem_of_getElem? (i := 194) (by decide +kernel)⟩
theorem lw_p1 : lw_okq (⟨"AmendsLedger$State", "topUp", "(I)I"⟩, 8) := ⟨⟨by decide +kernel, by decide +kernel⟩, List.mem_of_getElem? (i := 27) (by decide +kernel), List.mem_of_getElem? (i := 289) (by decide +kernel), List.mem_of_getElem? (i := 290) (by decide +kernel)⟩
theorem lw_p2 : lw_okq (⟨"AmendsLedger$State", "hand", "(II)V"⟩, 8) := ⟨⟨by decide +kernel, by decide +kernel⟩, List.mem_of_getElem? (i := 27) (by decide +kernel), List.mem_of_getElem? (i := 293) (by decide +kernel), List.mem_of_getElem? (i := 294) (by decide +kernel)⟩
theorem lw_p3 : lw_okq (⟨"java/lang/Throwable", "fillInStackTrace", "(I)Ljava/lang/Throwable;"⟩, 6) := ⟨⟨by decide +kernel, by decide +kernel⟩, List.mem_of_getElem? (i := 377) (by decide +kernel), List.mem_of_getElem? (i := 375) (by decide +kernel), List.mem_of_getElem? (i := 376) (by decide +kernel)⟩
theorem lw_p4 : lw_okq (⟨"AmendsLedger$Complaints", "areAlike", "(II)Z"⟩, 10) := ⟨⟨by decide +kernel, by decide +kernel⟩, List.mem_of_getElem? (i := 56) (by decide +kernel), List.mem_of_getElem? (i := 416) (by decide +kernel), List.mem_of_getElem? (i := 417) (by decide +kernel)⟩
theorem lw_p5 : lw_okq (⟨"AmendsLedger", "withKind", "(JI)J"⟩, 7) := ⟨⟨by decide +kernel, by decide +kernel⟩, List.mem_of_getElem? (i := 19) (by decide +kernel), List.mem_of_getElem? (i := 445) (by decide +kernel), List.mem_of_getElem? (i := 446) (by decide +kernel)⟩
theorem lw_p6 : lw_okq (⟨"AmendsLedger", "withComplaint", "(JI)J"⟩, 7) := ⟨⟨by decide +kernel, by decide +kernel⟩, List.mem_of_getElem? (i := 19) (by decide +kernel), List.mem_of_getElem? (i := 536) (by decide +kernel), List.mem_of_getElem? (i := 537) (by decide +kernel)⟩
theorem lw_p7 : lw_okq (⟨"AmendsLedger", "withBuffer", "(J)J"⟩, 7) := ⟨⟨by decide +kernel, by decide +kernel⟩, List.mem_of_getElem? (i := 19) (by decide +kernel), List.mem_of_getElem? (i := 641) (by decide +kernel), List.mem_of_getElem? (i := 642) (by decide +kernel)⟩
theorem lw_p8 : lw_okq (⟨"AmendsLedger", "save", "()V"⟩, 7) := ⟨⟨by decide +kernel, by decide +kernel⟩, List.mem_of_getElem? (i := 19) (by decide +kernel), List.mem_of_getElem? (i := 673) (by decide +kernel), List.mem_of_getElem? (i := 674) (by decide +kernel)⟩
theorem lw_p9 : lw_okq (⟨"AmendsLedger", "savedAt", "(I)LAmendsLedger$State;"⟩, 7) := ⟨⟨by decide +kernel, by decide +kernel⟩, List.mem_of_getElem? (i := 19) (by decide +kernel), List.mem_of_getElem? (i := 677) (by decide +kernel), List.mem_of_getElem? (i := 678) (by decide +kernel)⟩
theorem lw_p10 : lw_okq (⟨"AmendsLedger", "digitAt", "(I)I"⟩, 7) := ⟨⟨by decide +kernel, by decide +kernel⟩, List.mem_of_getElem? (i := 19) (by decide +kernel), List.mem_of_getElem? (i := 799) (by decide +kernel), List.mem_of_getElem? (i := 800) (by decide +kernel)⟩
theorem lw_p11 : lw_okq (⟨"AmendsLedgerModel", "fails", "(I)I"⟩, 12) := ⟨⟨by decide +kernel, by decide +kernel⟩, List.mem_of_getElem? (i := 850) (by decide +kernel), List.mem_of_getElem? (i := 910) (by decide +kernel), List.mem_of_getElem? (i := 911) (by decide +kernel)⟩
theorem lw_p12 : lw_okq (⟨"AmendsLedgerModel", "save", "()V"⟩, 12) := ⟨⟨by decide +kernel, by decide +kernel⟩, List.mem_of_getElem? (i := 850) (by decide +kernel), List.mem_of_getElem? (i := 914) (by decide +kernel), List.mem_of_getElem? (i := 915) (by decide +kernel)⟩
theorem lw_p13 : lw_okq (⟨"AmendsLedgerModel", "isAmends", "(II)Z"⟩, 12) := ⟨⟨by decide +kernel, by decide +kernel⟩, List.mem_of_getElem? (i := 850) (by decide +kernel), List.mem_of_getElem? (i := 925) (by decide +kernel), List.mem_of_getElem? (i := 926) (by decide +kernel)⟩
theorem lw_p14 : lw_okq (⟨"AmendsLedgerModel", "isOffered", "(II)Z"⟩, 12) := ⟨⟨by decide +kernel, by decide +kernel⟩, List.mem_of_getElem? (i := 850) (by decide +kernel), List.mem_of_getElem? (i := 929) (by decide +kernel), List.mem_of_getElem? (i := 930) (by decide +kernel)⟩
theorem lw_p15 : lw_okq (⟨"AmendsLedgerModel", "offered", "(I)I"⟩, 12) := ⟨⟨by decide +kernel, by decide +kernel⟩, List.mem_of_getElem? (i := 850) (by decide +kernel), List.mem_of_getElem? (i := 933) (by decide +kernel), List.mem_of_getElem? (i := 934) (by decide +kernel)⟩
def lw_privs_1 : List (MethodName × Nat) := [(⟨"AmendsLedger", "codeAt", "(I)I"⟩, 7), (⟨"AmendsLedger$State", "topUp", "(I)I"⟩, 8), (⟨"AmendsLedger$State", "hand", "(II)V"⟩, 8), (⟨"java/lang/Throwable", "fillInStackTrace", "(I)Ljava/lang/Throwable;"⟩, 6), (⟨"AmendsLedger$Complaints", "areAlike", "(II)Z"⟩, 10), (⟨"AmendsLedger", "withKind", "(JI)J"⟩, 7), (⟨"AmendsLedger", "withComplaint", "(JI)J"⟩, 7), (⟨"AmendsLedger", "withBuffer", "(J)J"⟩, 7), (⟨"AmendsLedger", "save", "()V"⟩, 7), (⟨"AmendsLedger", "savedAt", "(I)LAmendsLedger$State;"⟩, 7), (⟨"AmendsLedger", "digitAt", "(I)I"⟩, 7), (⟨"AmendsLedgerModel", "fails", "(I)I"⟩, 12), (⟨"AmendsLedgerModel", "save", "()V"⟩, 12), (⟨"AmendsLedgerModel", "isAmends", "(II)Z"⟩, 12), (⟨"AmendsLedgerModel", "isOffered", "(II)Z"⟩, 12), (⟨"AmendsLedgerModel", "offered", "(I)I"⟩, 12)]
theorem lw_r1 : ∀ q ∈ lw_privs_1, lw_okq q := List.forall_mem_cons.mpr ⟨lw_p0, List.forall_mem_cons.mpr ⟨lw_p1, List.forall_mem_cons.mpr ⟨lw_p2, List.forall_mem_cons.mpr ⟨lw_p3, List.forall_mem_cons.mpr ⟨lw_p4, List.forall_mem_cons.mpr ⟨lw_p5, List.forall_mem_cons.mpr ⟨lw_p6, List.forall_mem_cons.mpr ⟨lw_p7, List.forall_mem_cons.mpr ⟨lw_p8, List.forall_mem_cons.mpr ⟨lw_p9, List.forall_mem_cons.mpr ⟨lw_p10, List.forall_mem_cons.mpr ⟨lw_p11, List.forall_mem_cons.mpr ⟨lw_p12, List.forall_mem_cons.mpr ⟨lw_p13, List.forall_mem_cons.mpr ⟨lw_p14, List.forall_mem_cons.mpr ⟨lw_p15, fun _ h => absurd h List.not_mem_nil⟩⟩⟩⟩⟩⟩⟩⟩⟩⟩⟩⟩⟩⟩⟩⟩
theorem lw_p16 : lw_okq (⟨"AmendsLedgerModel", "complainNow", "(III)V"⟩, 12) := ⟨⟨by decide +kernel, by decide +kernel⟩, List.mem_of_getElem? (i := 850) (by decide +kernel), List.mem_of_getElem? (i := 952) (by decide +kernel), List.mem_of_getElem? (i := 953) (by decide +kernel)⟩
theorem lw_p17 : lw_okq (⟨"AmendsLedgerModel", "isComplaint", "(I)Z"⟩, 12) := ⟨⟨by decide +kernel, by decide +kernel⟩, List.mem_of_getElem? (i := 850) (by decide +kernel), List.mem_of_getElem? (i := 963) (by decide +kernel), List.mem_of_getElem? (i := 964) (by decide +kernel)⟩
theorem lw_p18 : lw_okq (⟨"AmendsLedgerModel", "whyDecided", "(III)I"⟩, 12) := ⟨⟨by decide +kernel, by decide +kernel⟩, List.mem_of_getElem? (i := 850) (by decide +kernel), List.mem_of_getElem? (i := 967) (by decide +kernel), List.mem_of_getElem? (i := 968) (by decide +kernel)⟩
theorem lw_p19 : lw_okq (⟨"AmendsLedgerModel", "fits", "(II)Z"⟩, 12) := ⟨⟨by decide +kernel, by decide +kernel⟩, List.mem_of_getElem? (i := 850) (by decide +kernel), List.mem_of_getElem? (i := 974) (by decide +kernel), List.mem_of_getElem? (i := 975) (by decide +kernel)⟩
theorem lw_p20 : lw_okq (⟨"AmendsLedgerModel", "binds", "(II)Z"⟩, 12) := ⟨⟨by decide +kernel, by decide +kernel⟩, List.mem_of_getElem? (i := 850) (by decide +kernel), List.mem_of_getElem? (i := 978) (by decide +kernel), List.mem_of_getElem? (i := 979) (by decide +kernel)⟩
theorem lw_p21 : lw_okq (⟨"AmendsLedgerModel", "latest", "(II)I"⟩, 12) := ⟨⟨by decide +kernel, by decide +kernel⟩, List.mem_of_getElem? (i := 850) (by decide +kernel), List.mem_of_getElem? (i := 982) (by decide +kernel), List.mem_of_getElem? (i := 983) (by decide +kernel)⟩
theorem lw_p22 : lw_okq (⟨"AmendsLedgerModel", "cost", "(II)I"⟩, 12) := ⟨⟨by decide +kernel, by decide +kernel⟩, List.mem_of_getElem? (i := 850) (by decide +kernel), List.mem_of_getElem? (i := 986) (by decide +kernel), List.mem_of_getElem? (i := 987) (by decide +kernel)⟩
theorem lw_p23 : lw_okq (⟨"AmendsLedgerModel", "left", "(I)I"⟩, 12) := ⟨⟨by decide +kernel, by decide +kernel⟩, List.mem_of_getElem? (i := 850) (by decide +kernel), List.mem_of_getElem? (i := 990) (by decide +kernel), List.mem_of_getElem? (i := 991) (by decide +kernel)⟩
theorem lw_p24 : lw_okq (⟨"AmendsLedgerModel", "give", "(II)V"⟩, 12) := ⟨⟨by decide +kernel, by decide +kernel⟩, List.mem_of_getElem? (i := 850) (by decide +kernel), List.mem_of_getElem? (i := 994) (by decide +kernel), List.mem_of_getElem? (i := 995) (by decide +kernel)⟩
theorem lw_p25 : lw_okq (⟨"AmendsLedgerModel", "setPrecedent", "(II)I"⟩, 12) := ⟨⟨by decide +kernel, by decide +kernel⟩, List.mem_of_getElem? (i := 850) (by decide +kernel), List.mem_of_getElem? (i := 998) (by decide +kernel), List.mem_of_getElem? (i := 999) (by decide +kernel)⟩
theorem lw_p26 : lw_okq (⟨"AmendsLedgerModel", "staged", "(I)I"⟩, 12) := ⟨⟨by decide +kernel, by decide +kernel⟩, List.mem_of_getElem? (i := 850) (by decide +kernel), List.mem_of_getElem? (i := 1006) (by decide +kernel), List.mem_of_getElem? (i := 1007) (by decide +kernel)⟩
theorem lw_p27 : lw_okq (⟨"AmendsLedgerModel", "whyJudged", "(II)I"⟩, 12) := ⟨⟨by decide +kernel, by decide +kernel⟩, List.mem_of_getElem? (i := 850) (by decide +kernel), List.mem_of_getElem? (i := 1014) (by decide +kernel), List.mem_of_getElem? (i := 1015) (by decide +kernel)⟩
theorem lw_p28 : lw_okq (⟨"AmendsLedgerModel", "judgeNow", "(II)I"⟩, 12) := ⟨⟨by decide +kernel, by decide +kernel⟩, List.mem_of_getElem? (i := 850) (by decide +kernel), List.mem_of_getElem? (i := 1018) (by decide +kernel), List.mem_of_getElem? (i := 1019) (by decide +kernel)⟩
theorem lw_p29 : lw_okq (⟨"AmendsLedgerModel", "topUps", "(I)I"⟩, 12) := ⟨⟨by decide +kernel, by decide +kernel⟩, List.mem_of_getElem? (i := 850) (by decide +kernel), List.mem_of_getElem? (i := 1022) (by decide +kernel), List.mem_of_getElem? (i := 1023) (by decide +kernel)⟩
theorem lw_p30 : lw_okq (⟨"AmendsLedgerModel", "waitsFor", "(I)I"⟩, 12) := ⟨⟨by decide +kernel, by decide +kernel⟩, List.mem_of_getElem? (i := 850) (by decide +kernel), List.mem_of_getElem? (i := 1026) (by decide +kernel), List.mem_of_getElem? (i := 1027) (by decide +kernel)⟩
theorem lw_p31 : lw_okq (⟨"AmendsLedgerModel", "closeNow", "()I"⟩, 12) := ⟨⟨by decide +kernel, by decide +kernel⟩, List.mem_of_getElem? (i := 850) (by decide +kernel), List.mem_of_getElem? (i := 1034) (by decide +kernel), List.mem_of_getElem? (i := 1035) (by decide +kernel)⟩
def lw_privs_2 : List (MethodName × Nat) := [(⟨"AmendsLedgerModel", "complainNow", "(III)V"⟩, 12), (⟨"AmendsLedgerModel", "isComplaint", "(I)Z"⟩, 12), (⟨"AmendsLedgerModel", "whyDecided", "(III)I"⟩, 12), (⟨"AmendsLedgerModel", "fits", "(II)Z"⟩, 12), (⟨"AmendsLedgerModel", "binds", "(II)Z"⟩, 12), (⟨"AmendsLedgerModel", "latest", "(II)I"⟩, 12), (⟨"AmendsLedgerModel", "cost", "(II)I"⟩, 12), (⟨"AmendsLedgerModel", "left", "(I)I"⟩, 12), (⟨"AmendsLedgerModel", "give", "(II)V"⟩, 12), (⟨"AmendsLedgerModel", "setPrecedent", "(II)I"⟩, 12), (⟨"AmendsLedgerModel", "staged", "(I)I"⟩, 12), (⟨"AmendsLedgerModel", "whyJudged", "(II)I"⟩, 12), (⟨"AmendsLedgerModel", "judgeNow", "(II)I"⟩, 12), (⟨"AmendsLedgerModel", "topUps", "(I)I"⟩, 12), (⟨"AmendsLedgerModel", "waitsFor", "(I)I"⟩, 12), (⟨"AmendsLedgerModel", "closeNow", "()I"⟩, 12)]
theorem lw_r2 : ∀ q ∈ lw_privs_2, lw_okq q := List.forall_mem_cons.mpr ⟨lw_p16, List.forall_mem_cons.mpr ⟨lw_p17, List.forall_mem_cons.mpr ⟨lw_p18, List.forall_mem_cons.mpr ⟨lw_p19, List.forall_mem_cons.mpr ⟨lw_p20, List.forall_mem_cons.mpr ⟨lw_p21, List.forall_mem_cons.mpr ⟨lw_p22, List.forall_mem_cons.mpr ⟨lw_p23, List.forall_mem_cons.mpr ⟨lw_p24, List.forall_mem_cons.mpr ⟨lw_p25, List.forall_mem_cons.mpr ⟨lw_p26, List.forall_mem_cons.mpr ⟨lw_p27, List.forall_mem_cons.mpr ⟨lw_p28, List.forall_mem_cons.mpr ⟨lw_p29, List.forall_mem_cons.mpr ⟨lw_p30, List.forall_mem_cons.mpr ⟨lw_p31, fun _ h => absurd h List.not_mem_nil⟩⟩⟩⟩⟩⟩⟩⟩⟩⟩⟩⟩⟩⟩⟩⟩
theorem lw_p32 : lw_okq (⟨"AmendsLedgerModel", "isText", "()Z"⟩, 12) := ⟨⟨by decide +kernel, by decide +kernel⟩, List.mem_of_getElem? (i := 850) (by decide +kernel), List.mem_of_getElem? (i := 1050) (by decide +kernel), List.mem_of_getElem? (i := 1051) (by decide +kernel)⟩
theorem lw_p33 : lw_okq (⟨"AmendsLedgerModel", "isOne", "()Z"⟩, 12) := ⟨⟨by decide +kernel, by decide +kernel⟩, List.mem_of_getElem? (i := 850) (by decide +kernel), List.mem_of_getElem? (i := 1054) (by decide +kernel), List.mem_of_getElem? (i := 1055) (by decide +kernel)⟩
theorem lw_p34 : lw_okq (⟨"AmendsLedgerModel", "takes", "(I)Z"⟩, 12) := ⟨⟨by decide +kernel, by decide +kernel⟩, List.mem_of_getElem? (i := 850) (by decide +kernel), List.mem_of_getElem? (i := 1058) (by decide +kernel), List.mem_of_getElem? (i := 1059) (by decide +kernel)⟩
theorem lw_p35 : lw_okq (⟨"AmendsLedgerModel", "digit", "(III)Z"⟩, 12) := ⟨⟨by decide +kernel, by decide +kernel⟩, List.mem_of_getElem? (i := 850) (by decide +kernel), List.mem_of_getElem? (i := 1062) (by decide +kernel), List.mem_of_getElem? (i := 1063) (by decide +kernel)⟩
theorem lw_p36 : lw_okq (⟨"AmendsLedgerModel", "complaintOf", "(II)I"⟩, 12) := ⟨⟨by decide +kernel, by decide +kernel⟩, List.mem_of_getElem? (i := 850) (by decide +kernel), List.mem_of_getElem? (i := 1078) (by decide +kernel), List.mem_of_getElem? (i := 1079) (by decide +kernel)⟩
theorem lw_p37 : lw_okq (⟨"AmendsLedgerModel", "amendsOf", "(III)I"⟩, 12) := ⟨⟨by decide +kernel, by decide +kernel⟩, List.mem_of_getElem? (i := 850) (by decide +kernel), List.mem_of_getElem? (i := 1086) (by decide +kernel), List.mem_of_getElem? (i := 1087) (by decide +kernel)⟩
theorem lw_p38 : lw_okq (⟨"AmendsLedgerModel", "having", "(II)I"⟩, 12) := ⟨⟨by decide +kernel, by decide +kernel⟩, List.mem_of_getElem? (i := 850) (by decide +kernel), List.mem_of_getElem? (i := 1090) (by decide +kernel), List.mem_of_getElem? (i := 1091) (by decide +kernel)⟩
theorem lw_p39 : lw_okq (⟨"AmendsLedgerModel", "precedentOf", "(III)I"⟩, 12) := ⟨⟨by decide +kernel, by decide +kernel⟩, List.mem_of_getElem? (i := 850) (by decide +kernel), List.mem_of_getElem? (i := 1098) (by decide +kernel), List.mem_of_getElem? (i := 1099) (by decide +kernel)⟩
theorem lw_p40 : lw_okq (⟨"AmendsLedgerModel", "following", "(I)I"⟩, 12) := ⟨⟨by decide +kernel, by decide +kernel⟩, List.mem_of_getElem? (i := 850) (by decide +kernel), List.mem_of_getElem? (i := 1102) (by decide +kernel), List.mem_of_getElem? (i := 1103) (by decide +kernel)⟩
theorem lw_p41 : lw_okq (⟨"AmendsLedgerModel", "kindOf", "(II)I"⟩, 12) := ⟨⟨by decide +kernel, by decide +kernel⟩, List.mem_of_getElem? (i := 850) (by decide +kernel), List.mem_of_getElem? (i := 1110) (by decide +kernel), List.mem_of_getElem? (i := 1111) (by decide +kernel)⟩
theorem lw_p42 : lw_okq (⟨"AmendsLedgerModel", "ofComplaints", "(II)I"⟩, 12) := ⟨⟨by decide +kernel, by decide +kernel⟩, List.mem_of_getElem? (i := 850) (by decide +kernel), List.mem_of_getElem? (i := 1114) (by decide +kernel), List.mem_of_getElem? (i := 1115) (by decide +kernel)⟩
theorem lw_p43 : lw_okq (⟨"AmendsLedgerModel", "counted", "(I)I"⟩, 12) := ⟨⟨by decide +kernel, by decide +kernel⟩, List.mem_of_getElem? (i := 850) (by decide +kernel), List.mem_of_getElem? (i := 1122) (by decide +kernel), List.mem_of_getElem? (i := 1123) (by decide +kernel)⟩
theorem lw_p44 : lw_okq (⟨"AmendsLedgerModel", "departing", "()I"⟩, 12) := ⟨⟨by decide +kernel, by decide +kernel⟩, List.mem_of_getElem? (i := 850) (by decide +kernel), List.mem_of_getElem? (i := 1126) (by decide +kernel), List.mem_of_getElem? (i := 1127) (by decide +kernel)⟩
theorem lw_p45 : lw_okq (⟨"AmendsLedgerModel", "unequal", "()I"⟩, 12) := ⟨⟨by decide +kernel, by decide +kernel⟩, List.mem_of_getElem? (i := 850) (by decide +kernel), List.mem_of_getElem? (i := 1130) (by decide +kernel), List.mem_of_getElem? (i := 1131) (by decide +kernel)⟩
theorem lw_p46 : lw_okq (⟨"AmendsLedgerModel", "customerAt", "(II)I"⟩, 12) := ⟨⟨by decide +kernel, by decide +kernel⟩, List.mem_of_getElem? (i := 850) (by decide +kernel), List.mem_of_getElem? (i := 1142) (by decide +kernel), List.mem_of_getElem? (i := 1143) (by decide +kernel)⟩
theorem lw_p47 : lw_okq (⟨"AmendsLedgerModel", "why", "(III)I"⟩, 12) := ⟨⟨by decide +kernel, by decide +kernel⟩, List.mem_of_getElem? (i := 850) (by decide +kernel), List.mem_of_getElem? (i := 1150) (by decide +kernel), List.mem_of_getElem? (i := 1151) (by decide +kernel)⟩
def lw_privs_3 : List (MethodName × Nat) := [(⟨"AmendsLedgerModel", "isText", "()Z"⟩, 12), (⟨"AmendsLedgerModel", "isOne", "()Z"⟩, 12), (⟨"AmendsLedgerModel", "takes", "(I)Z"⟩, 12), (⟨"AmendsLedgerModel", "digit", "(III)Z"⟩, 12), (⟨"AmendsLedgerModel", "complaintOf", "(II)I"⟩, 12), (⟨"AmendsLedgerModel", "amendsOf", "(III)I"⟩, 12), (⟨"AmendsLedgerModel", "having", "(II)I"⟩, 12), (⟨"AmendsLedgerModel", "precedentOf", "(III)I"⟩, 12), (⟨"AmendsLedgerModel", "following", "(I)I"⟩, 12), (⟨"AmendsLedgerModel", "kindOf", "(II)I"⟩, 12), (⟨"AmendsLedgerModel", "ofComplaints", "(II)I"⟩, 12), (⟨"AmendsLedgerModel", "counted", "(I)I"⟩, 12), (⟨"AmendsLedgerModel", "departing", "()I"⟩, 12), (⟨"AmendsLedgerModel", "unequal", "()I"⟩, 12), (⟨"AmendsLedgerModel", "customerAt", "(II)I"⟩, 12), (⟨"AmendsLedgerModel", "why", "(III)I"⟩, 12)]
theorem lw_r3 : ∀ q ∈ lw_privs_3, lw_okq q := List.forall_mem_cons.mpr ⟨lw_p32, List.forall_mem_cons.mpr ⟨lw_p33, List.forall_mem_cons.mpr ⟨lw_p34, List.forall_mem_cons.mpr ⟨lw_p35, List.forall_mem_cons.mpr ⟨lw_p36, List.forall_mem_cons.mpr ⟨lw_p37, List.forall_mem_cons.mpr ⟨lw_p38, List.forall_mem_cons.mpr ⟨lw_p39, List.forall_mem_cons.mpr ⟨lw_p40, List.forall_mem_cons.mpr ⟨lw_p41, List.forall_mem_cons.mpr ⟨lw_p42, List.forall_mem_cons.mpr ⟨lw_p43, List.forall_mem_cons.mpr ⟨lw_p44, List.forall_mem_cons.mpr ⟨lw_p45, List.forall_mem_cons.mpr ⟨lw_p46, List.forall_mem_cons.mpr ⟨lw_p47, fun _ h => absurd h List.not_mem_nil⟩⟩⟩⟩⟩⟩⟩⟩⟩⟩⟩⟩⟩⟩⟩⟩
theorem lw_p48 : lw_okq (⟨"AmendsLedgerModel", "fairOf", "(I)I"⟩, 12) := ⟨⟨by decide +kernel, by decide +kernel⟩, List.mem_of_getElem? (i := 850) (by decide +kernel), List.mem_of_getElem? (i := 1158) (by decide +kernel), List.mem_of_getElem? (i := 1159) (by decide +kernel)⟩
theorem lw_p49 : lw_okq (⟨"AmendsLedgerModel", "judgedOf", "(III)I"⟩, 12) := ⟨⟨by decide +kernel, by decide +kernel⟩, List.mem_of_getElem? (i := 850) (by decide +kernel), List.mem_of_getElem? (i := 1166) (by decide +kernel), List.mem_of_getElem? (i := 1167) (by decide +kernel)⟩
theorem lw_p50 : lw_okq (⟨"AmendsLedgerModel", "putAside", "()V"⟩, 12) := ⟨⟨by decide +kernel, by decide +kernel⟩, List.mem_of_getElem? (i := 850) (by decide +kernel), List.mem_of_getElem? (i := 1170) (by decide +kernel), List.mem_of_getElem? (i := 1171) (by decide +kernel)⟩
theorem lw_p51 : lw_okq (⟨"AmendsLedgerModel", "putBack", "()V"⟩, 12) := ⟨⟨by decide +kernel, by decide +kernel⟩, List.mem_of_getElem? (i := 850) (by decide +kernel), List.mem_of_getElem? (i := 1174) (by decide +kernel), List.mem_of_getElem? (i := 1175) (by decide +kernel)⟩
theorem lw_p52 : lw_okq (⟨"AmendsLedgerModel", "monthsOf", "()I"⟩, 12) := ⟨⟨by decide +kernel, by decide +kernel⟩, List.mem_of_getElem? (i := 850) (by decide +kernel), List.mem_of_getElem? (i := 1182) (by decide +kernel), List.mem_of_getElem? (i := 1183) (by decide +kernel)⟩
theorem lw_p53 : lw_okq (⟨"AmendsLedgerModel", "shareOf", "()D"⟩, 12) := ⟨⟨by decide +kernel, by decide +kernel⟩, List.mem_of_getElem? (i := 850) (by decide +kernel), List.mem_of_getElem? (i := 1190) (by decide +kernel), List.mem_of_getElem? (i := 1191) (by decide +kernel)⟩
theorem lw_p54 : lw_okq (⟨"AmendsLedgerModel", "mix", "(J)V"⟩, 12) := ⟨⟨by decide +kernel, by decide +kernel⟩, List.mem_of_getElem? (i := 850) (by decide +kernel), List.mem_of_getElem? (i := 1199) (by decide +kernel), List.mem_of_getElem? (i := 1200) (by decide +kernel)⟩
theorem lw_p55 : lw_okq (⟨"AmendsLedgerModel", "mixKind", "(I)V"⟩, 12) := ⟨⟨by decide +kernel, by decide +kernel⟩, List.mem_of_getElem? (i := 850) (by decide +kernel), List.mem_of_getElem? (i := 1204) (by decide +kernel), List.mem_of_getElem? (i := 1205) (by decide +kernel)⟩
theorem lw_p56 : lw_okq (⟨"AmendsLedgerModel", "mixComplaint", "(I)V"⟩, 12) := ⟨⟨by decide +kernel, by decide +kernel⟩, List.mem_of_getElem? (i := 850) (by decide +kernel), List.mem_of_getElem? (i := 1208) (by decide +kernel), List.mem_of_getElem? (i := 1209) (by decide +kernel)⟩
def lw_privs_4 : List (MethodName × Nat) := [(⟨"AmendsLedgerModel", "fairOf", "(I)I"⟩, 12), (⟨"AmendsLedgerModel", "judgedOf", "(III)I"⟩, 12), (⟨"AmendsLedgerModel", "putAside", "()V"⟩, 12), (⟨"AmendsLedgerModel", "putBack", "()V"⟩, 12), (⟨"AmendsLedgerModel", "monthsOf", "()I"⟩, 12), (⟨"AmendsLedgerModel", "shareOf", "()D"⟩, 12), (⟨"AmendsLedgerModel", "mix", "(J)V"⟩, 12), (⟨"AmendsLedgerModel", "mixKind", "(I)V"⟩, 12), (⟨"AmendsLedgerModel", "mixComplaint", "(I)V"⟩, 12)]
theorem lw_r4 : ∀ q ∈ lw_privs_4, lw_okq q := List.forall_mem_cons.mpr ⟨lw_p48, List.forall_mem_cons.mpr ⟨lw_p49, List.forall_mem_cons.mpr ⟨lw_p50, List.forall_mem_cons.mpr ⟨lw_p51, List.forall_mem_cons.mpr ⟨lw_p52, List.forall_mem_cons.mpr ⟨lw_p53, List.forall_mem_cons.mpr ⟨lw_p54, List.forall_mem_cons.mpr ⟨lw_p55, List.forall_mem_cons.mpr ⟨lw_p56, fun _ h => absurd h List.not_mem_nil⟩⟩⟩⟩⟩⟩⟩⟩⟩
def lw_privs : List (MethodName × Nat) := lw_privs_1 ++ (lw_privs_2 ++ (lw_privs_3 ++ (lw_privs_4)))
def lw_tbl : List Cond := k2_sels lw_privs ++ tables_1
theorem lw_privs_ok : ∀ q ∈ lw_privs, lw_okq q := by
  show ∀ q ∈ lw_privs_1 ++ (lw_privs_2 ++ (lw_privs_3 ++ (lw_privs_4))), lw_okq q
  exact List.forall_mem_append.mpr ⟨lw_r1, List.forall_mem_append.mpr ⟨lw_r2, List.forall_mem_append.mpr ⟨lw_r3, lw_r4⟩⟩⟩
/-- the streams that the claim lets the run draw from -/
abbrev lw_cs : List Choice := [Jvm.Choice.named "NaN.bits"]
theorem lw_bits : nanBits ∈ lw_cs := by first | decide | exact List.mem_cons_self | simp [lw_cs, nanBits]
-- ===== end of PART A; then your names; then what follows =====
def RX0 : String := "AmendsLedger$Complaints"
def TX0 : u_T := fun k => match k with
  | 0 => ("AmendsLedger$Complaints", "size", "I", false)
  | 1 => ("AmendsLedger$Complaints", "kinds", "[I", true)
  | 2 => ("AmendsLedger$Complaints", "severities", "[I", true)
  | 3 => ("AmendsLedger$Complaints", "customers", "[I", true)
  | 4 => ("AmendsLedger$Complaints", "stages", "[I", true)
  | 5 => ("AmendsLedger$Complaints", "amendsHad", "[I", true)
  | 6 => ("AmendsLedger$Complaints", "got", "[I", true)
  | 7 => ("AmendsLedger$Complaints", "reasons", "[I", true)
  | 8 => ("AmendsLedger$Complaints", "months", "[I", true)
  | _ => ("AmendsLedger$Complaints", "followed", "[I", true)
def tyX0 : Nat → FieldType := fun k => match k with
  | 0 => .int
  | 1 => .array .int
  | 2 => .array .int
  | 3 => .array .int
  | 4 => .array .int
  | 5 => .array .int
  | 6 => .array .int
  | 7 => .array .int
  | 8 => .array .int
  | _ => .array .int
abbrev wsX00 : List Cond := u_ws RX0 TX0 10
theorem nmX0 : ∀ a, a < 10 → ∀ b, b < 10 → a ≠ b → (TX0 a).2.1 ≠ (TX0 b).2.1 := by decide +kernel
theorem tyX0_ok : ∀ k, k < 10 → parseFieldDescriptor (TX0 k).2.2.1 = some (tyX0 k) := by decide +kernel
abbrev cX0_init : ByteArray := prog_2_method_1_code
def yX0_init : MethodName := ⟨RX0, "<init>", "()V"⟩
abbrev cX0_copyFrom : ByteArray := prog_2_method_2_code
def yX0_copyFrom : MethodName := ⟨RX0, "copyFrom", "(LAmendsLedger$Complaints;)V"⟩
abbrev cX0_has : ByteArray := prog_2_method_3_code
def yX0_has : MethodName := ⟨RX0, "has", "(I)Z"⟩
abbrev cX0_add : ByteArray := prog_2_method_4_code
def yX0_add : MethodName := ⟨RX0, "add", "(III)I"⟩
abbrev cX0_kindOf : ByteArray := prog_2_method_5_code
def yX0_kindOf : MethodName := ⟨RX0, "kindOf", "(I)I"⟩
abbrev cX0_severityOf : ByteArray := prog_2_method_6_code
def yX0_severityOf : MethodName := ⟨RX0, "severityOf", "(I)I"⟩
abbrev cX0_customerOf : ByteArray := prog_2_method_7_code
def yX0_customerOf : MethodName := ⟨RX0, "customerOf", "(I)I"⟩
abbrev cX0_groupOf : ByteArray := prog_2_method_8_code
def yX0_groupOf : MethodName := ⟨RX0, "groupOf", "(I)I"⟩
abbrev cX0_stageOf : ByteArray := prog_2_method_9_code
def yX0_stageOf : MethodName := ⟨RX0, "stageOf", "(I)I"⟩
abbrev cX0_amendsOf : ByteArray := prog_2_method_10_code
def yX0_amendsOf : MethodName := ⟨RX0, "amendsOf", "(I)I"⟩
abbrev cX0_gotOf : ByteArray := prog_2_method_11_code
def yX0_gotOf : MethodName := ⟨RX0, "gotOf", "(I)I"⟩
abbrev cX0_reasonOf : ByteArray := prog_2_method_12_code
def yX0_reasonOf : MethodName := ⟨RX0, "reasonOf", "(I)I"⟩
abbrev cX0_monthOf : ByteArray := prog_2_method_13_code
def yX0_monthOf : MethodName := ⟨RX0, "monthOf", "(I)I"⟩
abbrev cX0_followedBy : ByteArray := prog_2_method_14_code
def yX0_followedBy : MethodName := ⟨RX0, "followedBy", "(I)I"⟩
abbrev cX0_changeStage : ByteArray := prog_2_method_15_code
def yX0_changeStage : MethodName := ⟨RX0, "changeStage", "(II)V"⟩
abbrev cX0_give : ByteArray := prog_2_method_16_code
def yX0_give : MethodName := ⟨RX0, "give", "(III)V"⟩
abbrev cX0_noteDecision : ByteArray := prog_2_method_17_code
def yX0_noteDecision : MethodName := ⟨RX0, "noteDecision", "(IIII)V"⟩
abbrev cX0_inStage : ByteArray := prog_2_method_18_code
def yX0_inStage : MethodName := ⟨RX0, "inStage", "(I)I"⟩
abbrev cX0_ofKind : ByteArray := prog_2_method_19_code
def yX0_ofKind : MethodName := ⟨RX0, "ofKind", "(I)I"⟩
abbrev cX0_having : ByteArray := prog_2_method_20_code
def yX0_having : MethodName := ⟨RX0, "having", "(II)I"⟩
abbrev cX0_following : ByteArray := prog_2_method_21_code
def yX0_following : MethodName := ⟨RX0, "following", "(I)I"⟩
abbrev cX0_ofOne : ByteArray := prog_2_method_22_code
def yX0_ofOne : MethodName := ⟨RX0, "ofOne", "(II)I"⟩
abbrev cX0_gotInKind : ByteArray := prog_2_method_23_code
def yX0_gotInKind : MethodName := ⟨RX0, "gotInKind", "(I)I"⟩
abbrev cX0_gotInAll : ByteArray := prog_2_method_24_code
def yX0_gotInAll : MethodName := ⟨RX0, "gotInAll", "()I"⟩
abbrev cX0_unequalPairs : ByteArray := prog_2_method_25_code
def yX0_unequalPairs : MethodName := ⟨RX0, "unequalPairs", "()I"⟩
abbrev cX0_areAlike : ByteArray := prog_2_method_26_code
def yX0_areAlike : MethodName := ⟨RX0, "areAlike", "(II)Z"⟩
def RX1 : String := "AmendsLedger$Menus"
def TX1 : u_T := fun k => match k with
  | 0 => ("AmendsLedger$Menus", "sizes", "[I", true)
  | 1 => ("AmendsLedger$Menus", "costs", "[I", true)
  | 2 => ("AmendsLedger$Menus", "leasts", "[I", true)
  | 3 => ("AmendsLedger$Menus", "mosts", "[I", true)
  | _ => ("AmendsLedger$Menus", "offers", "[I", true)
def tyX1 : Nat → FieldType := fun k => match k with
  | 0 => .array .int
  | 1 => .array .int
  | 2 => .array .int
  | 3 => .array .int
  | _ => .array .int
abbrev wsX10 : List Cond := u_ws RX1 TX1 5
theorem nmX1 : ∀ a, a < 5 → ∀ b, b < 5 → a ≠ b → (TX1 a).2.1 ≠ (TX1 b).2.1 := by decide +kernel
theorem tyX1_ok : ∀ k, k < 5 → parseFieldDescriptor (TX1 k).2.2.1 = some (tyX1 k) := by decide +kernel
abbrev cX1_init : ByteArray := prog_3_method_1_code
def yX1_init : MethodName := ⟨RX1, "<init>", "()V"⟩
abbrev cX1_copyFrom : ByteArray := prog_3_method_2_code
def yX1_copyFrom : MethodName := ⟨RX1, "copyFrom", "(LAmendsLedger$Menus;)V"⟩
abbrev cX1_sizeOf : ByteArray := prog_3_method_3_code
def yX1_sizeOf : MethodName := ⟨RX1, "sizeOf", "(I)I"⟩
abbrev cX1_has : ByteArray := prog_3_method_4_code
def yX1_has : MethodName := ⟨RX1, "has", "(II)Z"⟩
abbrev cX1_costOf : ByteArray := prog_3_method_5_code
def yX1_costOf : MethodName := ⟨RX1, "costOf", "(II)I"⟩
abbrev cX1_leastOf : ByteArray := prog_3_method_6_code
def yX1_leastOf : MethodName := ⟨RX1, "leastOf", "(II)I"⟩
abbrev cX1_mostOf : ByteArray := prog_3_method_7_code
def yX1_mostOf : MethodName := ⟨RX1, "mostOf", "(II)I"⟩
abbrev cX1_isOffered : ByteArray := prog_3_method_8_code
def yX1_isOffered : MethodName := ⟨RX1, "isOffered", "(II)Z"⟩
abbrev cX1_covers : ByteArray := prog_3_method_9_code
def yX1_covers : MethodName := ⟨RX1, "covers", "(III)Z"⟩
abbrev cX1_add : ByteArray := prog_3_method_10_code
def yX1_add : MethodName := ⟨RX1, "add", "(IIII)I"⟩
abbrev cX1_remove : ByteArray := prog_3_method_11_code
def yX1_remove : MethodName := ⟨RX1, "remove", "(II)I"⟩
def RX2 : String := "AmendsLedger$Precedents"
def TX2 : u_T := fun k => match k with
  | 0 => ("AmendsLedger$Precedents", "size", "I", false)
  | 1 => ("AmendsLedger$Precedents", "amendsHeld", "[I", true)
  | 2 => ("AmendsLedger$Precedents", "months", "[I", true)
  | 3 => ("AmendsLedger$Precedents", "setters", "[I", true)
  | _ => ("AmendsLedger$Precedents", "latest", "[I", true)
def tyX2 : Nat → FieldType := fun k => match k with
  | 0 => .int
  | 1 => .array .int
  | 2 => .array .int
  | 3 => .array .int
  | _ => .array .int
abbrev wsX20 : List Cond := u_ws RX2 TX2 5
theorem nmX2 : ∀ a, a < 5 → ∀ b, b < 5 → a ≠ b → (TX2 a).2.1 ≠ (TX2 b).2.1 := by decide +kernel
theorem tyX2_ok : ∀ k, k < 5 → parseFieldDescriptor (TX2 k).2.2.1 = some (tyX2 k) := by decide +kernel
abbrev cX2_init : ByteArray := prog_4_method_1_code
def yX2_init : MethodName := ⟨RX2, "<init>", "()V"⟩
abbrev cX2_copyFrom : ByteArray := prog_4_method_2_code
def yX2_copyFrom : MethodName := ⟨RX2, "copyFrom", "(LAmendsLedger$Precedents;)V"⟩
abbrev cX2_has : ByteArray := prog_4_method_3_code
def yX2_has : MethodName := ⟨RX2, "has", "(I)Z"⟩
abbrev cX2_latestOf : ByteArray := prog_4_method_4_code
def yX2_latestOf : MethodName := ⟨RX2, "latestOf", "(II)I"⟩
abbrev cX2_amendsOf : ByteArray := prog_4_method_5_code
def yX2_amendsOf : MethodName := ⟨RX2, "amendsOf", "(I)I"⟩
abbrev cX2_monthOf : ByteArray := prog_4_method_6_code
def yX2_monthOf : MethodName := ⟨RX2, "monthOf", "(I)I"⟩
abbrev cX2_setterOf : ByteArray := prog_4_method_7_code
def yX2_setterOf : MethodName := ⟨RX2, "setterOf", "(I)I"⟩
abbrev cX2_raise : ByteArray := prog_4_method_8_code
def yX2_raise : MethodName := ⟨RX2, "raise", "(II)V"⟩
abbrev cX2_add : ByteArray := prog_4_method_9_code
def yX2_add : MethodName := ⟨RX2, "add", "(IIIII)I"⟩
def RX3 : String := "AmendsLedger$State"
def TX3 : u_T := fun k => match k with
  | 0 => ("AmendsLedger$State", "menus", "LAmendsLedger$Menus;", true)
  | 1 => ("AmendsLedger$State", "complaints", "LAmendsLedger$Complaints;", true)
  | 2 => ("AmendsLedger$State", "precedents", "LAmendsLedger$Precedents;", true)
  | 3 => ("AmendsLedger$State", "settings", "[I", true)
  | 4 => ("AmendsLedger$State", "bases", "[I", true)
  | 5 => ("AmendsLedger$State", "budgets", "[I", true)
  | 6 => ("AmendsLedger$State", "spent", "[I", true)
  | _ => ("AmendsLedger$State", "month", "I", false)
def tyX3 : Nat → FieldType := fun k => match k with
  | 0 => .object "AmendsLedger$Menus"
  | 1 => .object "AmendsLedger$Complaints"
  | 2 => .object "AmendsLedger$Precedents"
  | 3 => .array .int
  | 4 => .array .int
  | 5 => .array .int
  | 6 => .array .int
  | _ => .int
abbrev wsX30 : List Cond := u_ws RX3 TX3 8
theorem nmX3 : ∀ a, a < 8 → ∀ b, b < 8 → a ≠ b → (TX3 a).2.1 ≠ (TX3 b).2.1 := by decide +kernel
theorem tyX3_ok : ∀ k, k < 8 → parseFieldDescriptor (TX3 k).2.2.1 = some (tyX3 k) := by decide +kernel
abbrev cX3_init : ByteArray := prog_5_method_1_code
def yX3_init : MethodName := ⟨RX3, "<init>", "()V"⟩
abbrev cX3_copyFrom : ByteArray := prog_5_method_2_code
def yX3_copyFrom : MethodName := ⟨RX3, "copyFrom", "(LAmendsLedger$State;)V"⟩
abbrev cX3_settingOf : ByteArray := prog_5_method_3_code
def yX3_settingOf : MethodName := ⟨RX3, "settingOf", "(I)I"⟩
abbrev cX3_baseOf : ByteArray := prog_5_method_4_code
def yX3_baseOf : MethodName := ⟨RX3, "baseOf", "(I)I"⟩
abbrev cX3_budgetOf : ByteArray := prog_5_method_5_code
def yX3_budgetOf : MethodName := ⟨RX3, "budgetOf", "(I)I"⟩
abbrev cX3_spentOf : ByteArray := prog_5_method_6_code
def yX3_spentOf : MethodName := ⟨RX3, "spentOf", "(I)I"⟩
abbrev cX3_leftOf : ByteArray := prog_5_method_7_code
def yX3_leftOf : MethodName := ⟨RX3, "leftOf", "(I)I"⟩
abbrev cX3_changeSetting : ByteArray := prog_5_method_8_code
def yX3_changeSetting : MethodName := ⟨RX3, "changeSetting", "(II)I"⟩
abbrev cX3_changeBase : ByteArray := prog_5_method_9_code
def yX3_changeBase : MethodName := ⟨RX3, "changeBase", "(II)I"⟩
abbrev cX3_isBinding : ByteArray := prog_5_method_10_code
def yX3_isBinding : MethodName := ⟨RX3, "isBinding", "(II)Z"⟩
abbrev cX3_bindingFor : ByteArray := prog_5_method_11_code
def yX3_bindingFor : MethodName := ⟨RX3, "bindingFor", "(I)I"⟩
abbrev cX3_tieOf : ByteArray := prog_5_method_12_code
def yX3_tieOf : MethodName := ⟨RX3, "tieOf", "(I)I"⟩
abbrev cX3_departing : ByteArray := prog_5_method_13_code
def yX3_departing : MethodName := ⟨RX3, "departing", "()I"⟩
abbrev cX3_againstDecision : ByteArray := prog_5_method_14_code
def yX3_againstDecision : MethodName := ⟨RX3, "againstDecision", "(III)I"⟩
abbrev cX3_makeDecision : ByteArray := prog_5_method_15_code
def yX3_makeDecision : MethodName := ⟨RX3, "makeDecision", "(III)I"⟩
abbrev cX3_hand : ByteArray := prog_5_method_16_code
def yX3_hand : MethodName := ⟨RX3, "hand", "(II)V"⟩
abbrev cX3_canBeAppealed : ByteArray := prog_5_method_17_code
def yX3_canBeAppealed : MethodName := ⟨RX3, "canBeAppealed", "(I)Z"⟩
abbrev cX3_againstJudgement : ByteArray := prog_5_method_18_code
def yX3_againstJudgement : MethodName := ⟨RX3, "againstJudgement", "(II)I"⟩
abbrev cX3_makeJudgement : ByteArray := prog_5_method_19_code
def yX3_makeJudgement : MethodName := ⟨RX3, "makeJudgement", "(II)I"⟩
abbrev cX3_owedTo : ByteArray := prog_5_method_20_code
def yX3_owedTo : MethodName := ⟨RX3, "owedTo", "(I)I"⟩
abbrev cX3_topUp : ByteArray := prog_5_method_21_code
def yX3_topUp : MethodName := ⟨RX3, "topUp", "(I)I"⟩
abbrev cX3_waiting : ByteArray := prog_5_method_22_code
def yX3_waiting : MethodName := ⟨RX3, "waiting", "()I"⟩
abbrev cX3_owedInKind : ByteArray := prog_5_method_23_code
def yX3_owedInKind : MethodName := ⟨RX3, "owedInKind", "(I)I"⟩
abbrev cX3_owedInAll : ByteArray := prog_5_method_24_code
def yX3_owedInAll : MethodName := ⟨RX3, "owedInAll", "()I"⟩
abbrev cX3_turnMonth : ByteArray := prog_5_method_25_code
def yX3_turnMonth : MethodName := ⟨RX3, "turnMonth", "()I"⟩
abbrev cX3_ofComplaint : ByteArray := prog_5_method_26_code
def yX3_ofComplaint : MethodName := ⟨RX3, "ofComplaint", "(II)I"⟩
def RX4 : String := "AmendsLedger"
def TX4 : u_T := fun k => match k with
  | 0 => ("AmendsLedger", "now", "LAmendsLedger$State;", true)
  | 1 => ("AmendsLedger", "trial", "LAmendsLedger$State;", true)
  | 2 => ("AmendsLedger", "saved", "[LAmendsLedger$State;", true)
  | 3 => ("AmendsLedger", "savedCount", "I", false)
  | 4 => ("AmendsLedger", "savedNext", "I", false)
  | 5 => ("AmendsLedger", "buffer", "[I", true)
  | _ => ("AmendsLedger", "length", "I", false)
def tyX4 : Nat → FieldType := fun k => match k with
  | 0 => .object "AmendsLedger$State"
  | 1 => .object "AmendsLedger$State"
  | 2 => .array (.object "AmendsLedger$State")
  | 3 => .int
  | 4 => .int
  | 5 => .array .int
  | _ => .int
abbrev wsX40 : List Cond := u_ws RX4 TX4 7
theorem nmX4 : ∀ a, a < 7 → ∀ b, b < 7 → a ≠ b → (TX4 a).2.1 ≠ (TX4 b).2.1 := by decide +kernel
theorem tyX4_ok : ∀ k, k < 7 → parseFieldDescriptor (TX4 k).2.2.1 = some (tyX4 k) := by decide +kernel
abbrev cX4_init : ByteArray := prog_1_method_1_code
def yX4_init : MethodName := ⟨RX4, "<init>", "()V"⟩
abbrev cX4_offer : ByteArray := prog_1_method_2_code
def yX4_offer : MethodName := ⟨RX4, "offer", "(IIII)I"⟩
abbrev cX4_takeOff : ByteArray := prog_1_method_3_code
def yX4_takeOff : MethodName := ⟨RX4, "takeOff", "(II)I"⟩
abbrev cX4_base : ByteArray := prog_1_method_4_code
def yX4_base : MethodName := ⟨RX4, "base", "(II)I"⟩
abbrev cX4_set : ByteArray := prog_1_method_5_code
def yX4_set : MethodName := ⟨RX4, "set", "(II)I"⟩
abbrev cX4_complain : ByteArray := prog_1_method_6_code
def yX4_complain : MethodName := ⟨RX4, "complain", "(III)I"⟩
abbrev cX4_decide : ByteArray := prog_1_method_7_code
def yX4_decide : MethodName := ⟨RX4, "decide", "(III)I"⟩
abbrev cX4_appeal : ByteArray := prog_1_method_8_code
def yX4_appeal : MethodName := ⟨RX4, "appeal", "(I)I"⟩
abbrev cX4_judge : ByteArray := prog_1_method_9_code
def yX4_judge : MethodName := ⟨RX4, "judge", "(II)I"⟩
abbrev cX4_closeMonth : ByteArray := prog_1_method_10_code
def yX4_closeMonth : MethodName := ⟨RX4, "closeMonth", "()I"⟩
abbrev cX4_append : ByteArray := prog_1_method_11_code
def yX4_append : MethodName := ⟨RX4, "append", "(I)I"⟩
abbrev cX4_clearBuffer : ByteArray := prog_1_method_12_code
def yX4_clearBuffer : MethodName := ⟨RX4, "clearBuffer", "()I"⟩
abbrev cX4_firstError : ByteArray := prog_1_method_13_code
def yX4_firstError : MethodName := ⟨RX4, "firstError", "()I"⟩
abbrev cX4_complainAll : ByteArray := prog_1_method_14_code
def yX4_complainAll : MethodName := ⟨RX4, "complainAll", "()I"⟩
abbrev cX4_undo : ByteArray := prog_1_method_15_code
def yX4_undo : MethodName := ⟨RX4, "undo", "()I"⟩
abbrev cX4_complaint : ByteArray := prog_1_method_16_code
def yX4_complaint : MethodName := ⟨RX4, "complaint", "(II)I"⟩
abbrev cX4_amends : ByteArray := prog_1_method_17_code
def yX4_amends : MethodName := ⟨RX4, "amends", "(III)I"⟩
abbrev cX4_precedent : ByteArray := prog_1_method_18_code
def yX4_precedent : MethodName := ⟨RX4, "precedent", "(III)I"⟩
abbrev cX4_kind : ByteArray := prog_1_method_19_code
def yX4_kind : MethodName := ⟨RX4, "kind", "(II)I"⟩
abbrev cX4_count : ByteArray := prog_1_method_20_code
def yX4_count : MethodName := ⟨RX4, "count", "(I)I"⟩
abbrev cX4_setting : ByteArray := prog_1_method_21_code
def yX4_setting : MethodName := ⟨RX4, "setting", "(I)I"⟩
abbrev cX4_ofCustomer : ByteArray := prog_1_method_22_code
def yX4_ofCustomer : MethodName := ⟨RX4, "ofCustomer", "(II)I"⟩
abbrev cX4_whyNot : ByteArray := prog_1_method_23_code
def yX4_whyNot : MethodName := ⟨RX4, "whyNot", "(III)I"⟩
abbrev cX4_fair : ByteArray := prog_1_method_24_code
def yX4_fair : MethodName := ⟨RX4, "fair", "(I)I"⟩
abbrev cX4_ifJudged : ByteArray := prog_1_method_25_code
def yX4_ifJudged : MethodName := ⟨RX4, "ifJudged", "(III)I"⟩
abbrev cX4_monthsToEqual : ByteArray := prog_1_method_26_code
def yX4_monthsToEqual : MethodName := ⟨RX4, "monthsToEqual", "()I"⟩
abbrev cX4_followShare : ByteArray := prog_1_method_27_code
def yX4_followShare : MethodName := ⟨RX4, "followShare", "()D"⟩
abbrev cX4_digest : ByteArray := prog_1_method_28_code
def yX4_digest : MethodName := ⟨RX4, "digest", "()J"⟩
abbrev cX4_withKind : ByteArray := prog_1_method_29_code
def yX4_withKind : MethodName := ⟨RX4, "withKind", "(JI)J"⟩
abbrev cX4_withComplaint : ByteArray := prog_1_method_30_code
def yX4_withComplaint : MethodName := ⟨RX4, "withComplaint", "(JI)J"⟩
abbrev cX4_withBuffer : ByteArray := prog_1_method_31_code
def yX4_withBuffer : MethodName := ⟨RX4, "withBuffer", "(J)J"⟩
abbrev cX4_bitsOf : ByteArray := prog_1_method_32_code
def yX4_bitsOf : MethodName := ⟨RX4, "bitsOf", "(D)J"⟩
abbrev cX4_codeAt : ByteArray := prog_1_method_33_code
def yX4_codeAt : MethodName := ⟨RX4, "codeAt", "(I)I"⟩
abbrev cX4_digitAt : ByteArray := prog_1_method_34_code
def yX4_digitAt : MethodName := ⟨RX4, "digitAt", "(I)I"⟩
abbrev cX4_fitsPlace : ByteArray := prog_1_method_35_code
def yX4_fitsPlace : MethodName := ⟨RX4, "fitsPlace", "(II)Z"⟩
abbrev cX4_save : ByteArray := prog_1_method_36_code
def yX4_save : MethodName := ⟨RX4, "save", "()V"⟩
abbrev cX4_savedAt : ByteArray := prog_1_method_37_code
def yX4_savedAt : MethodName := ⟨RX4, "savedAt", "(I)LAmendsLedger$State;"⟩
abbrev cX4_requireIndex : ByteArray := prog_1_method_38_code
def yX4_requireIndex : MethodName := ⟨RX4, "requireIndex", "(Z)V"⟩
abbrev cX4_requireArgument : ByteArray := prog_1_method_39_code
def yX4_requireArgument : MethodName := ⟨RX4, "requireArgument", "(Z)V"⟩
abbrev cX4_requireState : ByteArray := prog_1_method_40_code
def yX4_requireState : MethodName := ⟨RX4, "requireState", "(Z)V"⟩
abbrev cX4_isWithin : ByteArray := prog_1_method_41_code
def yX4_isWithin : MethodName := ⟨RX4, "isWithin", "(III)Z"⟩
abbrev cX4_isKind : ByteArray := prog_1_method_42_code
def yX4_isKind : MethodName := ⟨RX4, "isKind", "(I)Z"⟩
abbrev cX4_isGroup : ByteArray := prog_1_method_43_code
def yX4_isGroup : MethodName := ⟨RX4, "isGroup", "(I)Z"⟩
abbrev cX4_isCustomer : ByteArray := prog_1_method_44_code
def yX4_isCustomer : MethodName := ⟨RX4, "isCustomer", "(I)Z"⟩
abbrev cX4_isSetting : ByteArray := prog_1_method_45_code
def yX4_isSetting : MethodName := ⟨RX4, "isSetting", "(I)Z"⟩
abbrev cX4_isValueOf : ByteArray := prog_1_method_46_code
def yX4_isValueOf : MethodName := ⟨RX4, "isValueOf", "(II)Z"⟩
abbrev cX4_copyAll : ByteArray := prog_1_method_47_code
def yX4_copyAll : MethodName := ⟨RX4, "copyAll", "([I[I)V"⟩
def RX5 : String := "AmendsLedgerModel"
def TX5 : u_T := fun k => match k with
  | 0 => ("AmendsLedgerModel", "z", "[I", true)
  | 1 => ("AmendsLedgerModel", "rows", "[I", true)
  | 2 => ("AmendsLedgerModel", "aside", "[I", true)
  | 3 => ("AmendsLedgerModel", "savedMany", "I", false)
  | 4 => ("AmendsLedgerModel", "buffer", "[I", true)
  | 5 => ("AmendsLedgerModel", "bufferMany", "I", false)
  | 6 => ("AmendsLedgerModel", "thrown", "I", false)
  | 7 => ("AmendsLedgerModel", "toppedUp", "I", false)
  | 8 => ("AmendsLedgerModel", "place", "I", false)
  | 9 => ("AmendsLedgerModel", "told", "I", false)
  | 10 => ("AmendsLedgerModel", "read", "[I", true)
  | _ => ("AmendsLedgerModel", "h", "J", false)
def tyX5 : Nat → FieldType := fun k => match k with
  | 0 => .array .int
  | 1 => .array .int
  | 2 => .array .int
  | 3 => .int
  | 4 => .array .int
  | 5 => .int
  | 6 => .int
  | 7 => .int
  | 8 => .int
  | 9 => .int
  | 10 => .array .int
  | _ => .long
abbrev wsX50 : List Cond := u_ws RX5 TX5 12
theorem nmX5 : ∀ a, a < 12 → ∀ b, b < 12 → a ≠ b → (TX5 a).2.1 ≠ (TX5 b).2.1 := by decide +kernel
theorem tyX5_ok : ∀ k, k < 12 → parseFieldDescriptor (TX5 k).2.2.1 = some (tyX5 k) := by decide +kernel
abbrev cX5_init : ByteArray := prog_7_method_1_code
def yX5_init : MethodName := ⟨RX5, "<init>", "()V"⟩
abbrev cX5_thrown : ByteArray := prog_7_method_2_code
def yX5_thrown : MethodName := ⟨RX5, "thrown", "()I"⟩
abbrev cX5_fails : ByteArray := prog_7_method_3_code
def yX5_fails : MethodName := ⟨RX5, "fails", "(I)I"⟩
abbrev cX5_in : ByteArray := prog_7_method_4_code
def yX5_in : MethodName := ⟨RX5, "in", "(III)Z"⟩
abbrev cX5_save : ByteArray := prog_7_method_5_code
def yX5_save : MethodName := ⟨RX5, "save", "()V"⟩
abbrev cX5_putAside : ByteArray := prog_7_method_6_code
def yX5_putAside : MethodName := ⟨RX5, "putAside", "()V"⟩
abbrev cX5_putBack : ByteArray := prog_7_method_7_code
def yX5_putBack : MethodName := ⟨RX5, "putBack", "()V"⟩
abbrev cX5_at : ByteArray := prog_7_method_8_code
def yX5_at : MethodName := ⟨RX5, "at", "(I)I"⟩
abbrev cX5_menuAt : ByteArray := prog_7_method_9_code
def yX5_menuAt : MethodName := ⟨RX5, "menuAt", "(II)I"⟩
abbrev cX5_of : ByteArray := prog_7_method_10_code
def yX5_of : MethodName := ⟨RX5, "of", "(I)I"⟩
abbrev cX5_isKind : ByteArray := prog_7_method_11_code
def yX5_isKind : MethodName := ⟨RX5, "isKind", "(I)Z"⟩
abbrev cX5_isAmends : ByteArray := prog_7_method_12_code
def yX5_isAmends : MethodName := ⟨RX5, "isAmends", "(II)Z"⟩
abbrev cX5_isComplaint : ByteArray := prog_7_method_13_code
def yX5_isComplaint : MethodName := ⟨RX5, "isComplaint", "(I)Z"⟩
abbrev cX5_group : ByteArray := prog_7_method_14_code
def yX5_group : MethodName := ⟨RX5, "group", "(I)I"⟩
abbrev cX5_left : ByteArray := prog_7_method_15_code
def yX5_left : MethodName := ⟨RX5, "left", "(I)I"⟩
abbrev cX5_isOffered : ByteArray := prog_7_method_16_code
def yX5_isOffered : MethodName := ⟨RX5, "isOffered", "(II)Z"⟩
abbrev cX5_cost : ByteArray := prog_7_method_17_code
def yX5_cost : MethodName := ⟨RX5, "cost", "(II)I"⟩
abbrev cX5_latest : ByteArray := prog_7_method_18_code
def yX5_latest : MethodName := ⟨RX5, "latest", "(II)I"⟩
abbrev cX5_binds : ByteArray := prog_7_method_19_code
def yX5_binds : MethodName := ⟨RX5, "binds", "(II)Z"⟩
abbrev cX5_waitsFor : ByteArray := prog_7_method_20_code
def yX5_waitsFor : MethodName := ⟨RX5, "waitsFor", "(I)I"⟩
abbrev cX5_offer : ByteArray := prog_7_method_21_code
def yX5_offer : MethodName := ⟨RX5, "offer", "(IIII)I"⟩
abbrev cX5_offered : ByteArray := prog_7_method_22_code
def yX5_offered : MethodName := ⟨RX5, "offered", "(I)I"⟩
abbrev cX5_takeOff : ByteArray := prog_7_method_23_code
def yX5_takeOff : MethodName := ⟨RX5, "takeOff", "(II)I"⟩
abbrev cX5_base : ByteArray := prog_7_method_24_code
def yX5_base : MethodName := ⟨RX5, "base", "(II)I"⟩
abbrev cX5_maySet : ByteArray := prog_7_method_25_code
def yX5_maySet : MethodName := ⟨RX5, "maySet", "(II)Z"⟩
abbrev cX5_set : ByteArray := prog_7_method_26_code
def yX5_set : MethodName := ⟨RX5, "set", "(II)I"⟩
abbrev cX5_complainNow : ByteArray := prog_7_method_27_code
def yX5_complainNow : MethodName := ⟨RX5, "complainNow", "(III)V"⟩
abbrev cX5_complain : ByteArray := prog_7_method_28_code
def yX5_complain : MethodName := ⟨RX5, "complain", "(III)I"⟩
abbrev cX5_fits : ByteArray := prog_7_method_29_code
def yX5_fits : MethodName := ⟨RX5, "fits", "(II)Z"⟩
abbrev cX5_whyDecided : ByteArray := prog_7_method_30_code
def yX5_whyDecided : MethodName := ⟨RX5, "whyDecided", "(III)I"⟩
abbrev cX5_whyJudged : ByteArray := prog_7_method_31_code
def yX5_whyJudged : MethodName := ⟨RX5, "whyJudged", "(II)I"⟩
abbrev cX5_why : ByteArray := prog_7_method_32_code
def yX5_why : MethodName := ⟨RX5, "why", "(III)I"⟩
abbrev cX5_give : ByteArray := prog_7_method_33_code
def yX5_give : MethodName := ⟨RX5, "give", "(II)V"⟩
abbrev cX5_setPrecedent : ByteArray := prog_7_method_34_code
def yX5_setPrecedent : MethodName := ⟨RX5, "setPrecedent", "(II)I"⟩
abbrev cX5_decide : ByteArray := prog_7_method_35_code
def yX5_decide : MethodName := ⟨RX5, "decide", "(III)I"⟩
abbrev cX5_staged : ByteArray := prog_7_method_36_code
def yX5_staged : MethodName := ⟨RX5, "staged", "(I)I"⟩
abbrev cX5_appeal : ByteArray := prog_7_method_37_code
def yX5_appeal : MethodName := ⟨RX5, "appeal", "(I)I"⟩
abbrev cX5_topUps : ByteArray := prog_7_method_38_code
def yX5_topUps : MethodName := ⟨RX5, "topUps", "(I)I"⟩
abbrev cX5_judgeNow : ByteArray := prog_7_method_39_code
def yX5_judgeNow : MethodName := ⟨RX5, "judgeNow", "(II)I"⟩
abbrev cX5_judge : ByteArray := prog_7_method_40_code
def yX5_judge : MethodName := ⟨RX5, "judge", "(II)I"⟩
abbrev cX5_closeNow : ByteArray := prog_7_method_41_code
def yX5_closeNow : MethodName := ⟨RX5, "closeNow", "()I"⟩
abbrev cX5_closeMonth : ByteArray := prog_7_method_42_code
def yX5_closeMonth : MethodName := ⟨RX5, "closeMonth", "()I"⟩
abbrev cX5_append : ByteArray := prog_7_method_43_code
def yX5_append : MethodName := ⟨RX5, "append", "(I)I"⟩
abbrev cX5_clearBuffer : ByteArray := prog_7_method_44_code
def yX5_clearBuffer : MethodName := ⟨RX5, "clearBuffer", "()I"⟩
abbrev cX5_takes : ByteArray := prog_7_method_45_code
def yX5_takes : MethodName := ⟨RX5, "takes", "(I)Z"⟩
abbrev cX5_digit : ByteArray := prog_7_method_46_code
def yX5_digit : MethodName := ⟨RX5, "digit", "(III)Z"⟩
abbrev cX5_isOne : ByteArray := prog_7_method_47_code
def yX5_isOne : MethodName := ⟨RX5, "isOne", "()Z"⟩
abbrev cX5_isText : ByteArray := prog_7_method_48_code
def yX5_isText : MethodName := ⟨RX5, "isText", "()Z"⟩
abbrev cX5_firstError : ByteArray := prog_7_method_49_code
def yX5_firstError : MethodName := ⟨RX5, "firstError", "()I"⟩
abbrev cX5_complainAll : ByteArray := prog_7_method_50_code
def yX5_complainAll : MethodName := ⟨RX5, "complainAll", "()I"⟩
abbrev cX5_undo : ByteArray := prog_7_method_51_code
def yX5_undo : MethodName := ⟨RX5, "undo", "()I"⟩
abbrev cX5_complaintOf : ByteArray := prog_7_method_52_code
def yX5_complaintOf : MethodName := ⟨RX5, "complaintOf", "(II)I"⟩
abbrev cX5_complaint : ByteArray := prog_7_method_53_code
def yX5_complaint : MethodName := ⟨RX5, "complaint", "(II)I"⟩
abbrev cX5_having : ByteArray := prog_7_method_54_code
def yX5_having : MethodName := ⟨RX5, "having", "(II)I"⟩
abbrev cX5_amendsOf : ByteArray := prog_7_method_55_code
def yX5_amendsOf : MethodName := ⟨RX5, "amendsOf", "(III)I"⟩
abbrev cX5_amends : ByteArray := prog_7_method_56_code
def yX5_amends : MethodName := ⟨RX5, "amends", "(III)I"⟩
abbrev cX5_following : ByteArray := prog_7_method_57_code
def yX5_following : MethodName := ⟨RX5, "following", "(I)I"⟩
abbrev cX5_precedentOf : ByteArray := prog_7_method_58_code
def yX5_precedentOf : MethodName := ⟨RX5, "precedentOf", "(III)I"⟩
abbrev cX5_precedent : ByteArray := prog_7_method_59_code
def yX5_precedent : MethodName := ⟨RX5, "precedent", "(III)I"⟩
abbrev cX5_ofComplaints : ByteArray := prog_7_method_60_code
def yX5_ofComplaints : MethodName := ⟨RX5, "ofComplaints", "(II)I"⟩
abbrev cX5_kindOf : ByteArray := prog_7_method_61_code
def yX5_kindOf : MethodName := ⟨RX5, "kindOf", "(II)I"⟩
abbrev cX5_kind : ByteArray := prog_7_method_62_code
def yX5_kind : MethodName := ⟨RX5, "kind", "(II)I"⟩
abbrev cX5_departing : ByteArray := prog_7_method_63_code
def yX5_departing : MethodName := ⟨RX5, "departing", "()I"⟩
abbrev cX5_unequal : ByteArray := prog_7_method_64_code
def yX5_unequal : MethodName := ⟨RX5, "unequal", "()I"⟩
abbrev cX5_counted : ByteArray := prog_7_method_65_code
def yX5_counted : MethodName := ⟨RX5, "counted", "(I)I"⟩
abbrev cX5_count : ByteArray := prog_7_method_66_code
def yX5_count : MethodName := ⟨RX5, "count", "(I)I"⟩
abbrev cX5_setting : ByteArray := prog_7_method_67_code
def yX5_setting : MethodName := ⟨RX5, "setting", "(I)I"⟩
abbrev cX5_customerAt : ByteArray := prog_7_method_68_code
def yX5_customerAt : MethodName := ⟨RX5, "customerAt", "(II)I"⟩
abbrev cX5_ofCustomer : ByteArray := prog_7_method_69_code
def yX5_ofCustomer : MethodName := ⟨RX5, "ofCustomer", "(II)I"⟩
abbrev cX5_whyNot : ByteArray := prog_7_method_70_code
def yX5_whyNot : MethodName := ⟨RX5, "whyNot", "(III)I"⟩
abbrev cX5_fairOf : ByteArray := prog_7_method_71_code
def yX5_fairOf : MethodName := ⟨RX5, "fairOf", "(I)I"⟩
abbrev cX5_fair : ByteArray := prog_7_method_72_code
def yX5_fair : MethodName := ⟨RX5, "fair", "(I)I"⟩
abbrev cX5_judgedOf : ByteArray := prog_7_method_73_code
def yX5_judgedOf : MethodName := ⟨RX5, "judgedOf", "(III)I"⟩
abbrev cX5_ifJudged : ByteArray := prog_7_method_74_code
def yX5_ifJudged : MethodName := ⟨RX5, "ifJudged", "(III)I"⟩
abbrev cX5_monthsOf : ByteArray := prog_7_method_75_code
def yX5_monthsOf : MethodName := ⟨RX5, "monthsOf", "()I"⟩
abbrev cX5_monthsToEqual : ByteArray := prog_7_method_76_code
def yX5_monthsToEqual : MethodName := ⟨RX5, "monthsToEqual", "()I"⟩
abbrev cX5_shareOf : ByteArray := prog_7_method_77_code
def yX5_shareOf : MethodName := ⟨RX5, "shareOf", "()D"⟩
abbrev cX5_followShare : ByteArray := prog_7_method_78_code
def yX5_followShare : MethodName := ⟨RX5, "followShare", "()D"⟩
abbrev cX5_mix : ByteArray := prog_7_method_79_code
def yX5_mix : MethodName := ⟨RX5, "mix", "(J)V"⟩
abbrev cX5_mixKind : ByteArray := prog_7_method_80_code
def yX5_mixKind : MethodName := ⟨RX5, "mixKind", "(I)V"⟩
abbrev cX5_mixComplaint : ByteArray := prog_7_method_81_code
def yX5_mixComplaint : MethodName := ⟨RX5, "mixComplaint", "(I)V"⟩
abbrev cX5_digest : ByteArray := prog_7_method_82_code
def yX5_digest : MethodName := ⟨RX5, "digest", "()J"⟩
def RJx145de : String := "java/io/Serializable"
def TJx145de : u_T := fun k => match k with
  | _ => ("", "", "", false)
def tyJx145de : Nat → FieldType := fun k => match k with
  | _ => .int
abbrev wsJx145de0 : List Cond := u_ws RJx145de TJx145de 0
theorem nmJx145de : ∀ a, a < 0 → ∀ b, b < 0 → a ≠ b → (TJx145de a).2.1 ≠ (TJx145de b).2.1 := by decide +kernel
theorem tyJx145de_ok : ∀ k, k < 0 → parseFieldDescriptor (TJx145de k).2.2.1 = some (tyJx145de k) := by decide +kernel
def RJxb160c : String := "java/lang/Comparable"
def TJxb160c : u_T := fun k => match k with
  | _ => ("", "", "", false)
def tyJxb160c : Nat → FieldType := fun k => match k with
  | _ => .int
abbrev wsJxb160c0 : List Cond := u_ws RJxb160c TJxb160c 0
theorem nmJxb160c : ∀ a, a < 0 → ∀ b, b < 0 → a ≠ b → (TJxb160c a).2.1 ≠ (TJxb160c b).2.1 := by decide +kernel
theorem tyJxb160c_ok : ∀ k, k < 0 → parseFieldDescriptor (TJxb160c k).2.2.1 = some (tyJxb160c k) := by decide +kernel
def RJxe99ae : String := "java/lang/Double"
def TJxe99ae : u_T := fun k => match k with
  | _ => ("", "", "", false)
def tyJxe99ae : Nat → FieldType := fun k => match k with
  | _ => .int
abbrev wsJxe99ae0 : List Cond := u_ws RJxe99ae TJxe99ae 0
theorem nmJxe99ae : ∀ a, a < 0 → ∀ b, b < 0 → a ≠ b → (TJxe99ae a).2.1 ≠ (TJxe99ae b).2.1 := by decide +kernel
theorem tyJxe99ae_ok : ∀ k, k < 0 → parseFieldDescriptor (TJxe99ae k).2.2.1 = some (tyJxe99ae k) := by decide +kernel
abbrev cJxe99ae_isNaN_b9ae7 : ByteArray := prog_8_method_6_code
def yJxe99ae_isNaN_b9ae7 : MethodName := ⟨RJxe99ae, "isNaN", "(D)Z"⟩
abbrev cJxe99ae_doubleToLongBits_ccdee : ByteArray := prog_8_method_23_code
def yJxe99ae_doubleToLongBits_ccdee : MethodName := ⟨RJxe99ae, "doubleToLongBits", "(D)J"⟩
def RJ9 : String := "java/lang/Math"
def TJ9 : u_T := fun k => match k with
  | _ => ("", "", "", false)
def tyJ9 : Nat → FieldType := fun k => match k with
  | _ => .int
abbrev wsJ90 : List Cond := u_ws RJ9 TJ9 0
theorem nmJ9 : ∀ a, a < 0 → ∀ b, b < 0 → a ≠ b → (TJ9 a).2.1 ≠ (TJ9 b).2.1 := by decide +kernel
theorem tyJ9_ok : ∀ k, k < 0 → parseFieldDescriptor (TJ9 k).2.2.1 = some (tyJ9 k) := by decide +kernel
abbrev cJ9_max_7cf53 : ByteArray := prog_13_method_65_code
def yJ9_max_7cf53 : MethodName := ⟨RJ9, "max", "(II)I"⟩
abbrev cJ9_min_7cf53 : ByteArray := prog_13_method_69_code
def yJ9_min_7cf53 : MethodName := ⟨RJ9, "min", "(II)I"⟩
def RJxd2413 : String := "java/lang/Number"
def TJxd2413 : u_T := fun k => match k with
  | _ => ("", "", "", false)
def tyJxd2413 : Nat → FieldType := fun k => match k with
  | _ => .int
abbrev wsJxd24130 : List Cond := u_ws RJxd2413 TJxd2413 0
theorem nmJxd2413 : ∀ a, a < 0 → ∀ b, b < 0 → a ≠ b → (TJxd2413 a).2.1 ≠ (TJxd2413 b).2.1 := by decide +kernel
theorem tyJxd2413_ok : ∀ k, k < 0 → parseFieldDescriptor (TJxd2413 k).2.2.1 = some (tyJxd2413 k) := by decide +kernel
def RJ10 : String := "java/lang/System"
def TJ10 : u_T := fun k => match k with
  | _ => ("", "", "", false)
def tyJ10 : Nat → FieldType := fun k => match k with
  | _ => .int
abbrev wsJ100 : List Cond := u_ws RJ10 TJ10 0
theorem nmJ10 : ∀ a, a < 0 → ∀ b, b < 0 → a ≠ b → (TJ10 a).2.1 ≠ (TJ10 b).2.1 := by decide +kernel
theorem tyJ10_ok : ∀ k, k < 0 → parseFieldDescriptor (TJ10 k).2.2.1 = some (tyJ10 k) := by decide +kernel
def RJxfd54e : String := "java/lang/constant/Constable"
def TJxfd54e : u_T := fun k => match k with
  | _ => ("", "", "", false)
def tyJxfd54e : Nat → FieldType := fun k => match k with
  | _ => .int
abbrev wsJxfd54e0 : List Cond := u_ws RJxfd54e TJxfd54e 0
theorem nmJxfd54e : ∀ a, a < 0 → ∀ b, b < 0 → a ≠ b → (TJxfd54e a).2.1 ≠ (TJxfd54e b).2.1 := by decide +kernel
theorem tyJxfd54e_ok : ∀ k, k < 0 → parseFieldDescriptor (TJxfd54e k).2.2.1 = some (tyJxfd54e k) := by decide +kernel
def RJx3cf43 : String := "java/lang/constant/ConstantDesc"
def TJx3cf43 : u_T := fun k => match k with
  | _ => ("", "", "", false)
def tyJx3cf43 : Nat → FieldType := fun k => match k with
  | _ => .int
abbrev wsJx3cf430 : List Cond := u_ws RJx3cf43 TJx3cf43 0
theorem nmJx3cf43 : ∀ a, a < 0 → ∀ b, b < 0 → a ≠ b → (TJx3cf43 a).2.1 ≠ (TJx3cf43 b).2.1 := by decide +kernel
theorem tyJx3cf43_ok : ∀ k, k < 0 → parseFieldDescriptor (TJx3cf43 k).2.2.1 = some (tyJx3cf43 k) := by decide +kernel
def RJ7 : String := "java/util/Arrays"
def TJ7 : u_T := fun k => match k with
  | _ => ("", "", "", false)
def tyJ7 : Nat → FieldType := fun k => match k with
  | _ => .int
abbrev wsJ70 : List Cond := u_ws RJ7 TJ7 0
theorem nmJ7 : ∀ a, a < 0 → ∀ b, b < 0 → a ≠ b → (TJ7 a).2.1 ≠ (TJ7 b).2.1 := by decide +kernel
theorem tyJ7_ok : ∀ k, k < 0 → parseFieldDescriptor (TJ7 k).2.2.1 = some (tyJ7 k) := by decide +kernel
abbrev cJ7_fill_53178 : ByteArray := prog_18_method_103_code
def yJ7_fill_53178 : MethodName := ⟨RJ7, "fill", "([II)V"⟩
def RL : String := "AmendsLedgerLaw"
abbrev cL_offer : ByteArray := method_3_code
def yL_offer : MethodName := ⟨RL, "offer", "(LAmendsLedger;IIII[J)I"⟩
abbrev cL_takeOff : ByteArray := method_4_code
def yL_takeOff : MethodName := ⟨RL, "takeOff", "(LAmendsLedger;II[J)I"⟩
abbrev cL_base : ByteArray := method_5_code
def yL_base : MethodName := ⟨RL, "base", "(LAmendsLedger;II[J)I"⟩
abbrev cL_set : ByteArray := method_6_code
def yL_set : MethodName := ⟨RL, "set", "(LAmendsLedger;II[J)I"⟩
abbrev cL_complain : ByteArray := method_7_code
def yL_complain : MethodName := ⟨RL, "complain", "(LAmendsLedger;III[J)I"⟩
abbrev cL_decide : ByteArray := method_8_code
def yL_decide : MethodName := ⟨RL, "decide", "(LAmendsLedger;III[J)I"⟩
abbrev cL_appeal : ByteArray := method_9_code
def yL_appeal : MethodName := ⟨RL, "appeal", "(LAmendsLedger;I[J)I"⟩
abbrev cL_judge : ByteArray := method_10_code
def yL_judge : MethodName := ⟨RL, "judge", "(LAmendsLedger;II[J)I"⟩
abbrev cL_closeMonth : ByteArray := method_11_code
def yL_closeMonth : MethodName := ⟨RL, "closeMonth", "(LAmendsLedger;[J)I"⟩
abbrev cL_append : ByteArray := method_12_code
def yL_append : MethodName := ⟨RL, "append", "(LAmendsLedger;I[J)I"⟩
abbrev cL_complainAll : ByteArray := method_13_code
def yL_complainAll : MethodName := ⟨RL, "complainAll", "(LAmendsLedger;[J)I"⟩
abbrev cL_undo : ByteArray := method_14_code
def yL_undo : MethodName := ⟨RL, "undo", "(LAmendsLedger;[J)I"⟩
abbrev cL_complaint : ByteArray := method_15_code
def yL_complaint : MethodName := ⟨RL, "complaint", "(LAmendsLedger;II[J)I"⟩
abbrev cL_amends : ByteArray := method_16_code
def yL_amends : MethodName := ⟨RL, "amends", "(LAmendsLedger;III[J)I"⟩
abbrev cL_precedent : ByteArray := method_17_code
def yL_precedent : MethodName := ⟨RL, "precedent", "(LAmendsLedger;III[J)I"⟩
abbrev cL_kind : ByteArray := method_18_code
def yL_kind : MethodName := ⟨RL, "kind", "(LAmendsLedger;II[J)I"⟩
abbrev cL_count : ByteArray := method_19_code
def yL_count : MethodName := ⟨RL, "count", "(LAmendsLedger;I[J)I"⟩
abbrev cL_setting : ByteArray := method_20_code
def yL_setting : MethodName := ⟨RL, "setting", "(LAmendsLedger;I[J)I"⟩
abbrev cL_ofCustomer : ByteArray := method_21_code
def yL_ofCustomer : MethodName := ⟨RL, "ofCustomer", "(LAmendsLedger;II[J)I"⟩
abbrev cL_whyNot : ByteArray := method_22_code
def yL_whyNot : MethodName := ⟨RL, "whyNot", "(LAmendsLedger;III[J)I"⟩
abbrev cL_fair : ByteArray := method_23_code
def yL_fair : MethodName := ⟨RL, "fair", "(LAmendsLedger;I[J)I"⟩
abbrev cL_ifJudged : ByteArray := method_24_code
def yL_ifJudged : MethodName := ⟨RL, "ifJudged", "(LAmendsLedger;III[J)I"⟩
abbrev cL_law : ByteArray := code
def yL_law : MethodName := ⟨RL, "law", "([I)Z"⟩
abbrev vwCl : List vw_C := [(RX0, TX0, 10), (RX1, TX1, 5), (RX2, TX2, 5), (RX3, TX3, 8), (RX4, TX4, 7), (RX5, TX5, 12)]
end
section
/-! ===== the words that every method has ===== -/
def BG : List Cond := lw_tbl.filter goodWord
theorem bg {w : Cond} (i : Nat) (h : lw_tbl[i]? = some w) (g : goodWord w = true) : w ∈ BG := List.mem_filter.mpr ⟨List.mem_of_getElem? h, g⟩
theorem bg_good : GoodIn BG BG := fun w hw => ⟨hw, good_of_word (List.mem_filter.mp hw).2⟩
abbrev rmH (d : Nat) : Room := { frames := d, cells := 0, slots := 0, locals := 28 * d }
abbrev wsM (y : MethodName) (b : ByteArray) (n : Nat) (ret : Option FieldType) : List Cond := .code y b n ret :: BG
theorem wsM_good {y : MethodName} {b : ByteArray} {n : Nat} {ret : Option FieldType} (h : Cond.code y b n ret ∈ BG) : GoodIn BG (wsM y b n ret) := by
  intro w hw
  rcases List.mem_cons.mp hw with rfl | hw
  · exact bg_good _ h
  · exact bg_good w hw
def NWf : List (String × Nat × String × String × String × String) := [("AmendsLedger", 92, "AmendsLedger$Complaints", "size", "I", "AmendsLedger"), ("AmendsLedger$State", 121, "AmendsLedger$Complaints", "size", "I", "AmendsLedger"), ("AmendsLedger", 234, "AmendsLedger$Precedents", "size", "I", "AmendsLedger"), ("AmendsLedger$State", 45, "AmendsLedger", "FIRST_SETTING", "[I", "AmendsLedger"), ("AmendsLedger", 42, "AmendsLedger$State", "menus", "LAmendsLedger$Menus;", "AmendsLedger"), ("AmendsLedger", 88, "AmendsLedger$State", "complaints", "LAmendsLedger$Complaints;", "AmendsLedger"), ("AmendsLedger", 179, "AmendsLedger$State", "precedents", "LAmendsLedger$Precedents;", "AmendsLedger"), ("AmendsLedger", 125, "AmendsLedger$State", "month", "I", "AmendsLedger")]
def NWm : List (String × Nat × MethodName × String) := [("AmendsLedger$State", 11, ⟨"AmendsLedger$Menus", "<init>", "()V"⟩, "AmendsLedger"), ("AmendsLedger$State", 20, ⟨"AmendsLedger$Complaints", "<init>", "()V"⟩, "AmendsLedger"), ("AmendsLedger$State", 48, ⟨"AmendsLedger", "copyAll", "([I[I)V"⟩, "AmendsLedger"), ("AmendsLedger$Menus", 31, ⟨"AmendsLedger", "isKind", "(I)Z"⟩, "AmendsLedger"), ("AmendsLedger$Menus", 27, ⟨"AmendsLedger", "copyAll", "([I[I)V"⟩, "AmendsLedger"), ("AmendsLedger$Complaints", 43, ⟨"AmendsLedger", "copyAll", "([I[I)V"⟩, "AmendsLedger"), ("AmendsLedger$Precedents", 34, ⟨"AmendsLedger", "copyAll", "([I[I)V"⟩, "AmendsLedger"), ("AmendsLedger$State", 76, ⟨"AmendsLedger", "isKind", "(I)Z"⟩, "AmendsLedger"), ("AmendsLedger$State", 72, ⟨"AmendsLedger", "isSetting", "(I)Z"⟩, "AmendsLedger"), ("AmendsLedger$Precedents", 38, ⟨"AmendsLedger", "isKind", "(I)Z"⟩, "AmendsLedger"), ("AmendsLedger$Precedents", 42, ⟨"AmendsLedger", "isGroup", "(I)Z"⟩, "AmendsLedger"), ("AmendsLedger$Menus", 46, ⟨"AmendsLedger", "isWithin", "(III)Z"⟩, "AmendsLedger")]
def NW : List Cond := NWf.map (fun q => .fieldLinkNest q.1 q.2.1 q.2.2.1 q.2.2.2.1 q.2.2.2.2.1 q.2.2.2.2.2) ++ NWm.map (fun q => .methodLinkNest q.1 q.2.1 q.2.2.1 q.2.2.2)
theorem NW_go {s U : State} (hW : s.WarmedH U.vm) (h : ∀ w ∈ NW, va_Nw w s) : ∀ w ∈ NW, va_Nw w U := by
  intro w hw
  have h1 := h w hw
  rcases List.mem_append.mp hw with hw | hw
  · obtain ⟨q, -, rfl⟩ := List.mem_map.mp hw
    exact va_Nw.warmF hW h1
  · obtain ⟨q, -, rfl⟩ := List.mem_map.mp hw
    exact va_Nw.warmM hW h1
/-! ===== the launch's own addresses and classes ===== -/
abbrev TE : Type := va_G × (ClassId × ClassId × ClassId) × Nat × (Nat × Nat × Nat)
abbrev eD (E : TE) : va_G := E.1
abbrev eI (E : TE) : ClassId := E.2.1.1
abbrev eS (E : TE) : ClassId := E.2.1.2.1
abbrev eL (E : TE) : ClassId := E.2.1.2.2
abbrev eh (E : TE) : Nat := E.2.2.1
abbrev eF (E : TE) : Nat := E.2.2.2.1
abbrev eM (E : TE) : Nat := E.2.2.2.2.1
abbrev eG (E : TE) : Nat := E.2.2.2.2.2
abbrev tyE (E : TE) : List (ClassId × FieldType) := [(eI E, .int), (eS E, .object "AmendsLedger$State"), (eL E, .long)]
abbrev Ah (E : TE) : Nat → Prop := fun q => eh E ≤ q
def fF (j : Nat) : Int32 := if j = 0 then 2 else if j = 1 then 1 else 50
def fM (j : Nat) : Int32 := if j = 0 then 1 else 0
def fG (j : Nat) : Int32 := if j = 0 then 6 else if j = 1 then 3 else 100
abbrev stA (n : String) (a : Nat) (f : Nat → Int32) (E : TE) (U : State) : Prop := va_Z "AmendsLedger" n "[I" (.ref a) (Ah E) U U.heap ∧ va_T .int a 3 (fun j => .int (f j)) (Ah E) U U.heap
abbrev Sts (E : TE) (U : State) : Prop := stA "FIRST_SETTING" (eF E) fF E U ∧ stA "LEAST_SETTING" (eM E) fM E U ∧ stA "GREATEST_SETTING" (eG E) fG E U
abbrev Thr (E : TE) (U : State) : Prop := vx_Zq Bundle.tN "UNASSIGNED_STACK" Bundle.steD (Ah E) U U.heap ∧ vx_Zq Bundle.tN "SUPPRESSED_SENTINEL" Bundle.listD (Ah E) U U.heap
def Ks (E : TE) (U : State) : Prop := va_K (eD E) vwCl (tyE E) U ∧ (∀ w ∈ NW, va_Nw w U) ∧ Sts E U ∧ Thr E U
theorem Ks.K {E : TE} {U : State} (h : Ks E U) : va_K (eD E) vwCl (tyE E) U := h.1
theorem Ks.nw {E : TE} {U : State} (h : Ks E U) {w : Cond} (hw : w ∈ NW) : va_Nw w U := h.2.1 w hw
theorem stA.go {n : String} {a : Nat} {f : Nat → Int32} {E : TE} {s U : State} {H : Heap} {locs : List Loc} (h : stA n a f E s) (hvm : s.vm.Alike U.vm) (hS : va_S (Ah E) s.heap H locs) (hh : U.heap = H) : stA n a f E U :=
  ⟨by rw [hh]; exact va_Z.moved hvm (h.1.kept hS.2.1), by rw [hh]; exact va_T.moved hvm (h.2.kept hS.2.1)⟩
theorem Ks.go {E : TE} {s U : State} {H : Heap} {locs : List Loc} (h : Ks E s) (hW : s.WarmedH U.vm) (hS : va_S (Ah E) s.heap H locs) (hh : U.heap = H) : Ks E U := by
  obtain ⟨h1, h2, ⟨a1, a2, a3⟩, t1, t2⟩ := h
  refine ⟨va_K.moved hW.alike h1, NW_go hW h2, ⟨a1.go hW.alike hS hh, a2.go hW.alike hS hh, a3.go hW.alike hS hh⟩, ?_, ?_⟩
  · rw [hh]; exact vx_Zq.moved hW.alike (t1.kept hS.2.1)
  · rw [hh]; exact vx_Zq.moved hW.alike (t2.kept hS.2.1)
theorem Ks.same {E : TE} {u U : State} (h : Ks E u) (hvm : u.vm = U.vm) (hh : u.heap = U.heap) : Ks E U := by
  have hW : u.WarmedH U.vm := by rw [← hvm]; exact State.WarmedH.refl u
  exact h.go hW (H := U.heap) (locs := []) (by rw [hh]; exact va_S.rf) rfl
/-! ===== the world ===== -/
abbrev XS : Type := Nat → Nat → Int32
def ux (x : XS) (k j : Nat) (v : Int32) : XS := fun k' j' => if k' = k ∧ j' = j then v else x k' j'
theorem ux_ne {x : XS} {k j q : Nat} {v : Int32} (h : q ≠ k) : ux x k j v q = x q := by funext j'; simp [ux, h]
theorem ux_eq {x : XS} {k j : Nat} {v : Int32} : ux x k j v k = upd (x k) j v := by funext j'; simp [ux, upd]
def aget (n : Nat) (f : Nat → Int32) (i : Int32) : Option Int32 := if i < 0 ∨ n ≤ i.toNatClampNeg then none else some (f i.toNatClampNeg)
def aset (x : XS) (k n : Nat) (i : Int32) (v : Int32) : Option XS := if i < 0 ∨ n ≤ i.toNatClampNeg then none else some (ux x k i.toNatClampNeg v)
theorem aget_some {n : Nat} {f : Nat → Int32} {i v : Int32} (h : aget n f i = some v) : vp_in i n ∧ f i.toNatClampNeg = v := by
  unfold aget at h
  split at h
  · cases h
  · rename_i g; exact ⟨g, Option.some.inj h⟩
theorem aset_some {x x1 : XS} {k n : Nat} {i v : Int32} (h : aset x k n i v = some x1) : vp_in i n ∧ ux x k i.toNatClampNeg v = x1 := by
  unfold aset at h
  split at h
  · cases h
  · rename_i g; exact ⟨g, Option.some.inj h⟩
abbrev rf (E : TE) (k : Nat) : Value := .ref (eh E + k)
abbrev ar (E : TE) (n : Nat) (f : Nat → Int32) : va_E := .inl (eI E, n, .inl f)
def blkC (E : TE) (b j : Nat) (f : Nat → Int32) : va_E :=
  if j = 0 then .inr (3, [rf E (b + 1), rf E (b + 7), rf E (b + 17), rf E (b + 22), rf E (b + 23), rf E (b + 24), rf E (b + 25), .int (f 7)])
  else if j = 1 then .inr (1, [rf E (b + 2), rf E (b + 3), rf E (b + 4), rf E (b + 5), rf E (b + 6)])
  else if j = 2 then ar E 4 f
  else if j < 7 then ar E 24 f
  else if j = 7 then .inr (0, [.int (f 0), rf E (b + 8), rf E (b + 9), rf E (b + 10), rf E (b + 11), rf E (b + 12), rf E (b + 13), rf E (b + 14), rf E (b + 15), rf E (b + 16)])
  else if j < 17 then ar E 24 f
  else if j = 17 then .inr (2, [.int (f 0), rf E (b + 18), rf E (b + 19), rf E (b + 20), rf E (b + 21)])
  else if j < 21 then ar E 24 f
  else if j = 21 then ar E 12 f
  else if j = 22 then ar E 3 f
  else ar E 4 f
def cellF (E : TE) (k : Nat) (f : Nat → Int32) (h o : Int64) : va_E :=
  if k = 0 then .inr (4, [rf E 1, rf E 27, rf E 53, .int (f 3), .int (f 4), rf E 54, .int (f 6)])
  else if k < 53 then blkC E (1 + 26 * ((k - 1) / 26)) ((k - 1) % 26) f
  else if k = 53 then .inl (eS E, 6, .inr (.inr (.inr (.inr (fun i => some (eh E + (55 + 26 * i)))))))
  else if k = 54 then ar E 60 f
  else if k < 211 then blkC E (55 + 26 * ((k - 55) / 26)) ((k - 55) % 26) f
  else if k = 211 then .inr (5, [rf E 212, rf E 213, rf E 214, .int (f 3), rf E 215, .int (f 5), .int (f 6), .int (f 7), .int (f 8), .int (f 9), rf E 216, .long h])
  else if k = 212 then ar E 442 f
  else if k = 213 then ar E 2652 f
  else if k = 214 then ar E 442 f
  else if k = 215 then ar E 60 f
  else if k = 216 then ar E 45 f
  else .inl (eL E, 1, .inr (.inl (fun _ => o)))
def rowV (x m : XS) (k : Nat) : Nat → Int32 := if k < 211 then x k else m (k - 211)
def cellV (E : TE) (x m : XS) (h o : Int64) (k : Nat) : va_E := cellF E k (rowV x m k) h o
def Wd (E : TE) (x m : XS) (h o : Int64) (H : Heap) : Prop := eh E + 218 ≤ H.size ∧ ∀ k, k < 218 → va_at (eD E) vwCl (eh E + k, cellV E x m h o k) H
def IsB (b : Nat) : Prop := b = 1 ∨ b = 27 ∨ ∃ i, i < 6 ∧ b = 55 + 26 * i
theorem IsB1 : IsB 1 := Or.inl rfl
theorem IsB27 : IsB 27 := Or.inr (Or.inl rfl)
theorem IsB.lt {b : Nat} (h : IsB b) {j : Nat} (hj : j < 26) : b + j < 211 := by
  rcases h with h | h | ⟨i, hi, h⟩ <;> omega
theorem IsB.lt0 {b : Nat} (h : IsB b) : b < 211 := h.lt (j := 0) (by omega)
theorem cellV_blk {E : TE} {x m : XS} {h o : Int64} {b : Nat} (hb : IsB b) (j : Nat) (hj : j < 26) : cellV E x m h o (b + j) = blkC E b j (x (b + j)) := by
  have hlt := hb.lt hj
  unfold cellV rowV
  rw [if_pos hlt]
  unfold cellF
  rcases hb with h | h | ⟨i, hi, h⟩
  · subst h
    rw [if_neg (by omega), if_pos (by omega), show (1 + j - 1) / 26 = 0 by omega, show (1 + j - 1) % 26 = j by omega]
  · subst h
    rw [if_neg (by omega), if_pos (by omega), show (27 + j - 1) / 26 = 1 by omega, show (27 + j - 1) % 26 = j by omega]
  · subst h
    rw [if_neg (by omega), if_neg (by omega), if_neg (by omega), if_neg (by omega), if_pos (by omega), show (55 + 26 * i + j - 55) / 26 = i by omega, show (55 + 26 * i + j - 55) % 26 = j by omega]
theorem cX_0 {E : TE} {x m : XS} {h o : Int64} : cellV E x m h o 0 = .inr (4, [rf E 1, rf E 27, rf E 53, .int (x 0 3), .int (x 0 4), rf E 54, .int (x 0 6)]) := rfl
theorem cX_53 {E : TE} {x m : XS} {h o : Int64} : cellV E x m h o 53 = .inl (eS E, 6, .inr (.inr (.inr (.inr (fun i => some (eh E + (55 + 26 * i))))))) := rfl
theorem cX_54 {E : TE} {x m : XS} {h o : Int64} : cellV E x m h o 54 = ar E 60 (x 54) := rfl
theorem cM_0 {E : TE} {x m : XS} {h o : Int64} : cellV E x m h o 211 = .inr (5, [rf E 212, rf E 213, rf E 214, .int (m 0 3), rf E 215, .int (m 0 5), .int (m 0 6), .int (m 0 7), .int (m 0 8), .int (m 0 9), rf E 216, .long h]) := rfl
theorem cM_1 {E : TE} {x m : XS} {h o : Int64} : cellV E x m h o 212 = ar E 442 (m 1) := rfl
theorem cM_2 {E : TE} {x m : XS} {h o : Int64} : cellV E x m h o 213 = ar E 2652 (m 2) := rfl
theorem cM_3 {E : TE} {x m : XS} {h o : Int64} : cellV E x m h o 214 = ar E 442 (m 3) := rfl
theorem cM_4 {E : TE} {x m : XS} {h o : Int64} : cellV E x m h o 215 = ar E 60 (m 4) := rfl
theorem cM_5 {E : TE} {x m : XS} {h o : Int64} : cellV E x m h o 216 = ar E 45 (m 5) := rfl
theorem cO {E : TE} {x m : XS} {h o : Int64} : cellV E x m h o 217 = .inl (eL E, 1, .inr (.inl (fun _ => o))) := rfl
theorem cB_0 {E : TE} {x m : XS} {h o : Int64} {b : Nat} (hb : IsB b) : cellV E x m h o b = .inr (3, [rf E (b + 1), rf E (b + 7), rf E (b + 17), rf E (b + 22), rf E (b + 23), rf E (b + 24), rf E (b + 25), .int (x b 7)]) := cellV_blk hb 0 (by omega)
theorem cB_1 {E : TE} {x m : XS} {h o : Int64} {b : Nat} (hb : IsB b) : cellV E x m h o (b + 1) = .inr (1, [rf E (b + 2), rf E (b + 3), rf E (b + 4), rf E (b + 5), rf E (b + 6)]) := cellV_blk hb 1 (by omega)
theorem cB_7 {E : TE} {x m : XS} {h o : Int64} {b : Nat} (hb : IsB b) : cellV E x m h o (b + 7) = .inr (0, [.int (x (b + 7) 0), rf E (b + 8), rf E (b + 9), rf E (b + 10), rf E (b + 11), rf E (b + 12), rf E (b + 13), rf E (b + 14), rf E (b + 15), rf E (b + 16)]) := cellV_blk hb 7 (by omega)
theorem cB_17 {E : TE} {x m : XS} {h o : Int64} {b : Nat} (hb : IsB b) : cellV E x m h o (b + 17) = .inr (2, [.int (x (b + 17) 0), rf E (b + 18), rf E (b + 19), rf E (b + 20), rf E (b + 21)]) := cellV_blk hb 17 (by omega)
theorem cB_2 {E : TE} {x m : XS} {h o : Int64} {b : Nat} (hb : IsB b) : cellV E x m h o (b + 2) = ar E 4 (x (b + 2)) := cellV_blk hb 2 (by omega)
theorem cB_3 {E : TE} {x m : XS} {h o : Int64} {b : Nat} (hb : IsB b) : cellV E x m h o (b + 3) = ar E 24 (x (b + 3)) := cellV_blk hb 3 (by omega)
theorem cB_4 {E : TE} {x m : XS} {h o : Int64} {b : Nat} (hb : IsB b) : cellV E x m h o (b + 4) = ar E 24 (x (b + 4)) := cellV_blk hb 4 (by omega)
theorem cB_5 {E : TE} {x m : XS} {h o : Int64} {b : Nat} (hb : IsB b) : cellV E x m h o (b + 5) = ar E 24 (x (b + 5)) := cellV_blk hb 5 (by omega)
theorem cB_6 {E : TE} {x m : XS} {h o : Int64} {b : Nat} (hb : IsB b) : cellV E x m h o (b + 6) = ar E 24 (x (b + 6)) := cellV_blk hb 6 (by omega)
theorem cB_8 {E : TE} {x m : XS} {h o : Int64} {b : Nat} (hb : IsB b) : cellV E x m h o (b + 8) = ar E 24 (x (b + 8)) := cellV_blk hb 8 (by omega)
theorem cB_9 {E : TE} {x m : XS} {h o : Int64} {b : Nat} (hb : IsB b) : cellV E x m h o (b + 9) = ar E 24 (x (b + 9)) := cellV_blk hb 9 (by omega)
theorem cB_10 {E : TE} {x m : XS} {h o : Int64} {b : Nat} (hb : IsB b) : cellV E x m h o (b + 10) = ar E 24 (x (b + 10)) := cellV_blk hb 10 (by omega)
theorem cB_11 {E : TE} {x m : XS} {h o : Int64} {b : Nat} (hb : IsB b) : cellV E x m h o (b + 11) = ar E 24 (x (b + 11)) := cellV_blk hb 11 (by omega)
theorem cB_12 {E : TE} {x m : XS} {h o : Int64} {b : Nat} (hb : IsB b) : cellV E x m h o (b + 12) = ar E 24 (x (b + 12)) := cellV_blk hb 12 (by omega)
theorem cB_13 {E : TE} {x m : XS} {h o : Int64} {b : Nat} (hb : IsB b) : cellV E x m h o (b + 13) = ar E 24 (x (b + 13)) := cellV_blk hb 13 (by omega)
theorem cB_14 {E : TE} {x m : XS} {h o : Int64} {b : Nat} (hb : IsB b) : cellV E x m h o (b + 14) = ar E 24 (x (b + 14)) := cellV_blk hb 14 (by omega)
theorem cB_15 {E : TE} {x m : XS} {h o : Int64} {b : Nat} (hb : IsB b) : cellV E x m h o (b + 15) = ar E 24 (x (b + 15)) := cellV_blk hb 15 (by omega)
theorem cB_16 {E : TE} {x m : XS} {h o : Int64} {b : Nat} (hb : IsB b) : cellV E x m h o (b + 16) = ar E 24 (x (b + 16)) := cellV_blk hb 16 (by omega)
theorem cB_18 {E : TE} {x m : XS} {h o : Int64} {b : Nat} (hb : IsB b) : cellV E x m h o (b + 18) = ar E 24 (x (b + 18)) := cellV_blk hb 18 (by omega)
theorem cB_19 {E : TE} {x m : XS} {h o : Int64} {b : Nat} (hb : IsB b) : cellV E x m h o (b + 19) = ar E 24 (x (b + 19)) := cellV_blk hb 19 (by omega)
theorem cB_20 {E : TE} {x m : XS} {h o : Int64} {b : Nat} (hb : IsB b) : cellV E x m h o (b + 20) = ar E 24 (x (b + 20)) := cellV_blk hb 20 (by omega)
theorem cB_21 {E : TE} {x m : XS} {h o : Int64} {b : Nat} (hb : IsB b) : cellV E x m h o (b + 21) = ar E 12 (x (b + 21)) := cellV_blk hb 21 (by omega)
theorem cB_22 {E : TE} {x m : XS} {h o : Int64} {b : Nat} (hb : IsB b) : cellV E x m h o (b + 22) = ar E 3 (x (b + 22)) := cellV_blk hb 22 (by omega)
theorem cB_23 {E : TE} {x m : XS} {h o : Int64} {b : Nat} (hb : IsB b) : cellV E x m h o (b + 23) = ar E 4 (x (b + 23)) := cellV_blk hb 23 (by omega)
theorem cB_24 {E : TE} {x m : XS} {h o : Int64} {b : Nat} (hb : IsB b) : cellV E x m h o (b + 24) = ar E 4 (x (b + 24)) := cellV_blk hb 24 (by omega)
theorem cB_25 {E : TE} {x m : XS} {h o : Int64} {b : Nat} (hb : IsB b) : cellV E x m h o (b + 25) = ar E 4 (x (b + 25)) := cellV_blk hb 25 (by omega)
theorem Wd.at {E : TE} {x m : XS} {h o : Int64} {H : Heap} (hW : Wd E x m h o H) {k : Nat} (hk : k < 218) {c : va_E} (hc : cellV E x m h o k = c) : va_P (eD E) vwCl [(eh E + k, c)] H := by
  intro i q hq
  have hz : i < 1 := (List.getElem?_eq_some_iff.mp hq).1
  rw [show i = 0 by omega] at hq
  cases hq
  rw [← hc]
  exact hW.2 k hk
theorem Wd.upd {E : TE} {x m x1 m1 : XS} {h o h1 o1 : Int64} {H H1 : Heap} (hW : Wd E x m h o H) {k : Nat} (hk : k < 218) {c : va_E} (hc : cellV E x1 m1 h1 o1 k = c) (hat : va_at (eD E) vwCl (eh E + k, c) H1) (hz : H1.size = H.size) (ho : ∀ q : Nat, q ≠ eh E + k → H1[q]? = H[q]?)
    (hs : ∀ q, q < 218 → q ≠ k → cellV E x1 m1 h1 o1 q = cellV E x m h o q) : Wd E x1 m1 h1 o1 H1 := by
  refine ⟨by rw [hz]; exact hW.1, fun q hq => ?_⟩
  by_cases e : q = k
  · subst e; rw [hc]; exact hat
  · rw [hs q hq e]; exact (hW.2 q hq).kept (ho _ (by show eh E + q ≠ eh E + k; omega))
theorem cellV_ux {E : TE} {x m : XS} {h o : Int64} {k j : Nat} {v : Int32} : ∀ q, q < 218 → q ≠ k → cellV E (ux x k j v) m h o q = cellV E x m h o q := by
  intro q _ hq; unfold cellV rowV; rw [ux_ne hq]
theorem cellV_um {E : TE} {x m : XS} {h o : Int64} {k j : Nat} {v : Int32} : ∀ q, q < 218 → q ≠ 211 + k → cellV E x (ux m k j v) h o q = cellV E x m h o q := by
  intro q _ hq; unfold cellV rowV
  by_cases h1 : q < 211
  · rw [if_pos h1, if_pos h1]
  · rw [if_neg h1, if_neg h1, ux_ne (by omega)]
theorem cellV_h {E : TE} {x m : XS} {h h1 o : Int64} : ∀ q, q < 218 → q ≠ 211 → cellV E x m h1 o q = cellV E x m h o q := by
  intro q _ hq; unfold cellV cellF
  by_cases h0 : q = 211
  · exact absurd h0 hq
  · simp [h0]
theorem cellV_o {E : TE} {x m : XS} {h o o1 : Int64} : ∀ q, q < 218 → q ≠ 217 → cellV E x m h o1 q = cellV E x m h o q := by
  intro q h1 hq; unfold cellV cellF
  by_cases a : q < 211
  · simp [a]
  · rcases (by omega : q = 211 ∨ q = 212 ∨ q = 213 ∨ q = 214 ∨ q = 215 ∨ q = 216) with e | e | e | e | e | e <;> subst e <;> rfl
theorem IsB.l8 {b : Nat} (h : IsB b) {j : Nat} (hj : j < 26) : b + j < 218 := Nat.lt_trans (h.lt hj) (by decide)
theorem oif {c : Prop} [Decidable c] {α : Type} {a r : α} (h : (if c then some a else none) = some r) : c ∧ some a = some r := by
  by_cases hc : c
  · rw [if_pos hc] at h; exact ⟨hc, h⟩
  · rw [if_neg hc] at h; cases h
def dok (x : UInt64) : Option UInt64 := if x &&& 0x7fffffffffffffff ≤ 0x7ff0000000000000 then some x else none
theorem dok_some {x y : UInt64} (h : dok x = some y) : vf_n64 x ∧ x = y := by
  unfold dok at h
  split at h
  · rename_i g; exact ⟨g, Option.some.inj h⟩
  · cases h
section XK
variable {p : Program} {l : Launch} {e : Env} {R : Room} {s : State} {mi : MethodId} {args : Array Value} {below : List Frame} {meth : Method} {c : Code} {H : Heap} {locs : List Loc} {cells slots : Nat} {Q : State → Prop}
variable {cc : ByteArray} {pc : Nat} {ls : Array Slot} {rest : List Value} {E : TE} {x m : XS} {h o : Int64}
theorem Wd.rec (hK : Ks E s) (hW : Wd E x m h o H) {k : Nat} (hk : k < 218) {ci : Nat} {fs : List Value} (hc : cellV E x m h o k = .inr (ci, fs)) {C : String} {T : u_T} {N : Nat} (hcl : vwCl[ci]? = some (C, T, N)) : ∃ cell : Cell, H[eh E + k]? = some cell ∧ cell.vm.isStatics = false ∧ s.vm.findClass C = some cell.cls :=
  va_recv hK.1 (hW.at hk hc) (ci := ci) (q0 := 0) hcl rfl
theorem r_get (hx : p.tables.exec = Jvm.exec) (hb : c.code = cc) (hB : ∀ w ∈ BG, w.before args s = true) (hK : Ks E s) {own C : String} {T : u_T} {N ci index : Nat} (hin : ∀ w ∈ u_ws C T N, w ∈ BG) (hown : s.vm.findClass own = some mi.cls) (hW : Wd E x m h o H) {k : Nat} (hk : k < 218) {fs : List Value} (hc : cellV E x m h o k = .inr (ci, fs)) (hcl : vwCl[ci]? = some (C, T, N)) (j : Nat) (hj : j < N) (hT : (T j).1 = C) (hlink : Cond.fieldLink own index C (T j).2.1 (T j).2.2.1 ∈ BG) {v : Value} (hv : fs[j]? = some v) (hdg : decode cc pc = .ok (.getfield index, 3))
    (kk : W p l e R s mi args below meth c H locs cells slots Q (F0 mi (pc + 3) ls (v :: rest))) : W p l e R s mi args below meth c H locs cells slots Q (F0 mi pc ls (.ref (eh E + k) :: rest)) :=
  va_get (own := own) (ref := C) (ci := ci) (ws := [(eh E + k, .inr (ci, fs))]) (C := C) (T := T) (N := N) hx hb hB hin hown hK.1 (hW.at hk hc) 0 rfl hcl j hj (hB _ hlink) (fun _ h9 => by rw [hT] at h9; exact h9) hv hdg kk
theorem r_getN (hx : p.tables.exec = Jvm.exec) (hb : c.code = cc) (hB : ∀ w ∈ BG, w.before args s = true) (hK : Ks E s) {own C host : String} {T : u_T} {N ci index : Nat} (hin : ∀ w ∈ u_ws C T N, w ∈ BG) (hown : s.vm.findClass own = some mi.cls) (hW : Wd E x m h o H) {k : Nat} (hk : k < 218) {fs : List Value} (hc : cellV E x m h o k = .inr (ci, fs)) (hcl : vwCl[ci]? = some (C, T, N)) (j : Nat) (hj : j < N) (hT : (T j).1 = C) (hlink : Cond.fieldLinkNest own index C (T j).2.1 (T j).2.2.1 host ∈ NW) {v : Value} (hv : fs[j]? = some v) (hdg : decode cc pc = .ok (.getfield index, 3))
    (kk : W p l e R s mi args below meth c H locs cells slots Q (F0 mi (pc + 3) ls (v :: rest))) : W p l e R s mi args below meth c H locs cells slots Q (F0 mi pc ls (.ref (eh E + k) :: rest)) :=
  va_getN (own := own) (ref := C) (ci := ci) (host := host) (ws := [(eh E + k, .inr (ci, fs))]) (C := C) (T := T) (N := N) hx hb hB hin hown hK.1 (hW.at hk hc) 0 rfl hcl j hj (va_Nw.use rfl (hK.nw hlink)) (fun _ h9 => by rw [hT] at h9; exact h9) hv hdg kk
theorem r_put (hx : p.tables.exec = Jvm.exec) (hb : c.code = cc) (hB : ∀ w ∈ BG, w.before args s = true) (hK : Ks E s) {own C : String} {T : u_T} {N ci index : Nat} (hin : ∀ w ∈ u_ws C T N, w ∈ BG) (ty0 : Nat → FieldType) (hty : ∀ k, k < N → parseFieldDescriptor (T k).2.2.1 = some (ty0 k)) (hnm : ∀ a, a < N → ∀ b, b < N → a ≠ b → (T a).2.1 ≠ (T b).2.1) (hown : s.vm.findClass own = some mi.cls) (hW : Wd E x m h o H) (hS : va_S (Ah E) s.heap H locs) {k : Nat} (hk : k < 218) {fs : List Value} (hc : cellV E x m h o k = .inr (ci, fs)) (hcl : vwCl[ci]? = some (C, T, N)) (j : Nat) (hj : j < N) (hT : (T j).1 = C) (hfin : (T j).2.2.2 = false) (hlink : Cond.fieldLink own index C (T j).2.1 (T j).2.2.1 ∈ BG) {ty : FieldType} {v : Value} (hd : parseFieldDescriptor (T j).2.2.1 = some ty) (hn : narrow ty v = v) (hfit : fits ty v = true) (hl : j < fs.length)
    {x1 m1 : XS} {h1 o1 : Int64} (hc1 : cellV E x1 m1 h1 o1 k = .inr (ci, fs.set j v)) (hs : ∀ q, q < 218 → q ≠ k → cellV E x1 m1 h1 o1 q = cellV E x m h o q) (hdg : decode cc pc = .ok (.putfield index, 3))
    (kk : ∀ (H1 : Heap) (locs1 : List Loc), Wd E x1 m1 h1 o1 H1 → va_S (Ah E) s.heap H1 locs1 → W p l e R s mi args below meth c H1 locs1 cells slots Q (F0 mi (pc + 3) ls rest)) : W p l e R s mi args below meth c H locs cells slots Q (F0 mi pc ls (v :: .ref (eh E + k) :: rest)) := by
  have hap := va_apart (own := own) hB hin ty0 hty hnm hK.1 hcl
  have he : [(eh E + k, (.inr (ci, fs) : va_E))][0]? = some (eh E + k, .inr (ci, fs)) := rfl
  obtain ⟨r, h2, cell, q1, q2, q3, q4⟩ := hW.at hk hc 0 _ he
  have hr : r = (C, T, N) := Option.some.inj (h2.symm.trans hcl)
  subst hr
  obtain ⟨hSl, hfc, kC, hkC, hkind⟩ := hK.1.1 ci _ hcl
  obtain ⟨cf, kf, fi, f, hi, hsl⟩ := hSl j hj
  have hlay := hB _ (hin _ (u_in_lay hj))
  unfold u_lay at hlay
  rw [if_neg (by rw [hfin]; decide)] at hlay
  have hst := (u_facts hfc hkC (u_lays hB hin hj) hi).1
  have h6 := u_store hfc hkC hkind hlay hi hd hn hfit
  refine W.putK hx hb (f := f) ⟨hown, hB _ hlink, ⟨_, _, _, by rw [← hT]; exact hi⟩, hst⟩ (by rw [q2]; exact h6) q1 q3 (by rw [hsl]; exact k2_hasslot (q4 j hj)) rfl rfl hdg fun H' e1 e2 e3 => ?_
  rw [hsl] at e1 ⊢
  exact kk H' _ (hW.upd hk hc1 ⟨_, hcl, t_OB.to (V := updV (vp_V fs) j v) ⟨_, e1, q2, q3, t_set q4 hap hj v⟩ (fun j _ => vp_updV_set hl v j)⟩ e2 e3 hs) (hS.put e2 e3 (Nat.le_add_right _ _))
theorem r_iald (hx : p.tables.exec = Jvm.exec) (hb : c.code = cc) (hK : Ks E s) (hW : Wd E x m h o H) {k n : Nat} (hk : k < 218) {f : Nat → Int32} (hc : cellV E x m h o k = ar E n f) {i v : Int32} (hv : aget n f i = some v) (hdg : decode cc pc = .ok (.iaload, 1))
    (kk : W p l e R s mi args below meth c H locs cells slots Q (F0 mi (pc + 1) ls (.int v :: rest))) : W p l e R s mi args below meth c H locs cells slots Q (F0 mi pc ls (.int i :: .ref (eh E + k) :: rest)) := by
  obtain ⟨hin, rfl⟩ := aget_some hv
  exact va_iald (D := eD E) (cl := vwCl) (tys := tyE E) (ws := [(eh E + k, ar E n f)]) hx hb hK.1 (hW.at hk hc) 0 0 rfl rfl hin hdg kk
theorem r_alen (hx : p.tables.exec = Jvm.exec) (hb : c.code = cc) (hK : Ks E s) (hW : Wd E x m h o H) {k n : Nat} (hk : k < 218) {f : Nat → Int32} (hc : cellV E x m h o k = ar E n f) {v : Int32} (hv : Int32.ofNat n = v) (hdg : decode cc pc = .ok (.arraylength, 1))
    (kk : W p l e R s mi args below meth c H locs cells slots Q (F0 mi (pc + 1) ls (.int v :: rest))) : W p l e R s mi args below meth c H locs cells slots Q (F0 mi pc ls (.ref (eh E + k) :: rest)) :=
  va_alen (D := eD E) (cl := vwCl) (tys := tyE E) (ws := [(eh E + k, ar E n f)]) (x := (n, .inl f)) hx hb hK.1 (hW.at hk hc) 0 0 rfl rfl hv hdg kk
theorem r_iastG (hx : p.tables.exec = Jvm.exec) (hb : c.code = cc) (hK : Ks E s) (hW : Wd E x m h o H) (hS : va_S (Ah E) s.heap H locs) {k n : Nat} (hk : k < 218) {f : Nat → Int32} (hc : cellV E x m h o k = ar E n f) {i v : Int32} (hin : vp_in i n)
    {x1 m1 : XS} {h1 o1 : Int64} (hc1 : cellV E x1 m1 h1 o1 k = ar E n (upd f i.toNatClampNeg v)) (hs : ∀ q, q < 218 → q ≠ k → cellV E x1 m1 h1 o1 q = cellV E x m h o q) (hdg : decode cc pc = .ok (.iastore, 1))
    (kk : ∀ (H1 : Heap) (locs1 : List Loc), Wd E x1 m1 h1 o1 H1 → va_S (Ah E) s.heap H1 locs1 → W p l e R s mi args below meth c H1 locs1 cells slots Q (F0 mi (pc + 1) ls rest)) : W p l e R s mi args below meth c H locs cells slots Q (F0 mi pc ls (.int v :: .int i :: .ref (eh E + k) :: rest)) := by
  have hP := hW.at hk hc
  have ht : (tyE E)[0]? = some (eI E, FieldType.int) := rfl
  refine W.iast hx hb (hP 0 _ rfl) ((hK.1.2 0 _ ht).1 n (fun j => .int (f j))) (fun q => by cases q) (by show ¬ (i < 0 ∨ (arrV _ _ _).slots.size ≤ _); rw [arrV_size]; exact hin) rfl rfl hdg fun H1 e z oq => ?_
  refine kk H1 _ (hW.upd hk hc1 ?_ z oq hs) (hS.put z oq (Nat.le_add_right _ _))
  show H1[eh E + k]? = some (vp_cell _ _)
  rw [e]
  rw [vp_cell_i, vp_cell_i, arrV_store]
  congr 2
  funext q
  by_cases hq : q = i.toNatClampNeg
  · subst hq
    simp [updV, upd]
  · simp [updV, upd, hq]
theorem r_iastX (hx : p.tables.exec = Jvm.exec) (hb : c.code = cc) (hK : Ks E s) (hW : Wd E x m h o H) (hS : va_S (Ah E) s.heap H locs) {k n : Nat} (hk : k < 211) (hc : ∀ x : XS, cellV E x m h o k = ar E n (x k)) {i v : Int32} {x1 : XS} (hv : aset x k n i v = some x1) (hdg : decode cc pc = .ok (.iastore, 1))
    (kk : ∀ (H1 : Heap) (locs1 : List Loc), Wd E x1 m h o H1 → va_S (Ah E) s.heap H1 locs1 → W p l e R s mi args below meth c H1 locs1 cells slots Q (F0 mi (pc + 1) ls rest)) : W p l e R s mi args below meth c H locs cells slots Q (F0 mi pc ls (.int v :: .int i :: .ref (eh E + k) :: rest)) := by
  obtain ⟨hin, rfl⟩ := aset_some hv
  exact r_iastG hx hb hK hW hS (by omega) (hc x) hin (by rw [hc, ux_eq]) cellV_ux hdg kk
theorem r_iastM (hx : p.tables.exec = Jvm.exec) (hb : c.code = cc) (hK : Ks E s) (hW : Wd E x m h o H) (hS : va_S (Ah E) s.heap H locs) {k n : Nat} (hk : k < 6) (hc : ∀ m : XS, cellV E x m h o (211 + k) = ar E n (m k)) {i v : Int32} {m1 : XS} (hv : aset m k n i v = some m1) (hdg : decode cc pc = .ok (.iastore, 1))
    (kk : ∀ (H1 : Heap) (locs1 : List Loc), Wd E x m1 h o H1 → va_S (Ah E) s.heap H1 locs1 → W p l e R s mi args below meth c H1 locs1 cells slots Q (F0 mi (pc + 1) ls rest)) : W p l e R s mi args below meth c H locs cells slots Q (F0 mi pc ls (.int v :: .int i :: .ref (eh E + (211 + k)) :: rest)) := by
  obtain ⟨hin, rfl⟩ := aset_some hv
  exact r_iastG hx hb hK hW hS (by omega) (hc m) hin (by rw [hc, ux_eq]) cellV_um hdg kk
/-! ===== contracts ===== -/
def QG (E : TE) (W1 : Heap → Prop) (r : Option Value) : Array Value → State → Outcome → State → Prop := fun _ st oc t => oc = .returned r ∧ W1 t.heap ∧ va_F (Ah E) st t
def MG (l : Launch) (E : TE) (y : MethodName) (b : ByteArray) (n : Nat) (ret : Option FieldType) (d : Nat) (As : List Value) (W0 W1 : Heap → Prop) (r : Option Value) : Prop :=
  Met l y (wsM y b n ret) (rmH d) (va_Pc As (fun U => Ks E U ∧ W0 U.heap)) (QG E W1 r) 0 0 (Ah E)
def EQ (E : TE) (below : List Frame) (args : Array Value) (s : State) (W1 : Heap → Prop) (r : Option Value) : State → Prop := MQ below (QG E W1 r) args s 0 0 (Ah E)
theorem m_in {y : MethodName} {b : ByteArray} {n : Nat} {ret : Option FieldType} {d : Nat} {As : List Value} {W0 W1 : Heap → Prop} {r : Option Value} (hy : plainName y.cls = true) (hA : (lg_sl As).length ≤ n)
    (body : ∀ (p : Program) (e : Env) (s : State) (mi : MethodId) (args : Array Value) (below : List Frame) (meth : Method) (c : Code) (H : Heap) (ls : Array Slot), p.tables.exec = Jvm.exec → c.code = b → meth.sig.returnType = ret → meth.locks = false → c.maxLocals = n → s.vm.findClass y.cls = some mi.cls → (∀ w ∈ BG, w.before args s = true) → Ks E s → W0 H → va_S (Ah E) s.heap H [] → lv_has ls n (lv_args 0 As) →
      W p l e (rmH d) s mi args below meth c H [] 0 0 (EQ E below args s W1 r) (F0 mi 0 ls [])) : MG l E y b n ret d As W0 W1 r := by
  refine Met.ofW (cc := b) (maxL := n) (ret := ret) hy rfl ?_
  intro p e s mi args below meth c s₁ B hml hv
  obtain ⟨rfl, hK, hW⟩ := hv
  have hl := lv_entry As (n := n) hA
  rw [lg_entry_eq]
  exact body p e s mi _ below meth c s.heap _ B.exec B.bytes B.returns B.notSynchronized hml (findClass_of_methodNamed B.named) (fun w hw => atoms_spec (ws := wsM y b n ret) B.pre w (List.mem_cons_of_mem _ hw)) hK hW va_S.rf hl
theorem e_i {W1 : Heap → Prop} {v : Int32} (hx : p.tables.exec = Jvm.exec) (hb : c.code = cc) (hr : meth.sig.returnType = some .int) (hlocks : meth.locks = false) (hW : W1 H) (hS : va_S (Ah E) s.heap H locs) (hdg : decode cc pc = .ok (.ireturn, 1)) : W p l e R s mi args below meth c H locs 0 0 (EQ E below args s W1 (some (.int v))) (F0 mi pc ls [.int v]) :=
  W.iret hx hb hr (fun t ht hW9 => ⟨rfl, by rw [ht]; exact hW, hS.F ht⟩) hS.2.2 hdg hlocks
theorem e_z {W1 : Heap → Prop} {v : Int32} (hx : p.tables.exec = Jvm.exec) (hb : c.code = cc) (hr : meth.sig.returnType = some .boolean) (hlocks : meth.locks = false) (hv : v = 0 ∨ v = 1) (hW : W1 H) (hS : va_S (Ah E) s.heap H locs) (hdg : decode cc pc = .ok (.ireturn, 1)) : W p l e R s mi args below meth c H locs 0 0 (EQ E below args s W1 (some (.int v))) (F0 mi pc ls [.int v]) :=
  W.zret hx hb hr (by rcases hv with rfl | rfl <;> rfl) (fun t ht hW9 => ⟨rfl, by rw [ht]; exact hW, hS.F ht⟩) hS.2.2 hdg hlocks
theorem e_l {W1 : Heap → Prop} {v : Int64} (hx : p.tables.exec = Jvm.exec) (hb : c.code = cc) (hr : meth.sig.returnType = some .long) (hlocks : meth.locks = false) (hW : W1 H) (hS : va_S (Ah E) s.heap H locs) (hdg : decode cc pc = .ok (.lreturn, 1)) : W p l e R s mi args below meth c H locs 0 0 (EQ E below args s W1 (some (.long v))) (F0 mi pc ls [.long v]) :=
  W.lret hx hb hr (fun t ht hW9 => ⟨rfl, by rw [ht]; exact hW, hS.F ht⟩) hS.2.2 hdg hlocks
theorem e_d {W1 : Heap → Prop} {v : UInt64} (hx : p.tables.exec = Jvm.exec) (hb : c.code = cc) (hr : meth.sig.returnType = some .double) (hlocks : meth.locks = false) (hW : W1 H) (hS : va_S (Ah E) s.heap H locs) (hdg : decode cc pc = .ok (.dreturn, 1)) : W p l e R s mi args below meth c H locs 0 0 (EQ E below args s W1 (some (.double v))) (F0 mi pc ls [.double v]) :=
  W.dret hx hb hr (fun t ht hW9 => ⟨rfl, by rw [ht]; exact hW, hS.F ht⟩) hS.2.2 hdg hlocks
theorem e_v {W1 : Heap → Prop} (hx : p.tables.exec = Jvm.exec) (hb : c.code = cc) (hr : meth.sig.returnType = none) (hlocks : meth.locks = false) (hW : W1 H) (hS : va_S (Ah E) s.heap H locs) (hdg : decode cc pc = .ok (.return_, 1)) : W p l e R s mi args below meth c H locs 0 0 (EQ E below args s W1 none) (F0 mi pc ls []) :=
  W.vret hx hb hr (fun t ht hW9 => ⟨rfl, by rw [ht]; exact hW, hS.F ht⟩) hS.2.2 hdg hlocks
theorem e_a {W1 : Heap → Prop} {k : Nat} {C : String} (hx : p.tables.exec = Jvm.exec) (hb : c.code = cc) (hr : meth.sig.returnType = some (.object C)) (hlocks : meth.locks = false) (hW : W1 H) (hS : va_S (Ah E) s.heap H locs) (hdg : decode cc pc = .ok (.areturn, 1)) : W p l e R s mi args below meth c H locs 0 0 (EQ E below args s W1 (some (.ref k))) (F0 mi pc ls [.ref k]) :=
  W.aret hx hb hr (Or.inl ⟨_, rfl⟩) (Or.inr ⟨_, rfl⟩) (fun t ht hW9 => ⟨rfl, by rw [ht]; exact hW, hS.F ht⟩) hS.2.2 hdg hlocks
/-! ===== calls ===== -/
theorem pc_blind {As : List Value} {W0 : Heap → Prop} : FrameBlind (va_Pc As (fun U => Ks E U ∧ W0 U.heap)) := fun _ _ _ _ h => ⟨h.1, h.2.1.same rfl rfl, h.2.2⟩
theorem pc_go {As : List Value} {W0 : Heap → Prop} (hK : Ks E s) (hS : va_S (Ah E) s.heap H locs) (hW : W0 H) : ∀ U : State, U.heap = H → s.WarmedH U.vm → va_Pc As (fun U => Ks E U ∧ W0 U.heap) As.toArray U := fun U hU hw => ⟨rfl, hK.go hw hS hU, by rw [hU]; exact hW⟩
theorem c_run {W1 : Heap → Prop} {r : Option Value} {a : Array Value} {st0 st1 : List Value} (hr : va_Run p l e R s mi args below meth c H locs cells slots 0 0 (F0 mi pc ls st0) rest (QG E W1 r a) (Ah E)) (hS : va_S (Ah E) s.heap H locs) (h1 : r.toList ++ rest = st1)
    (kk : ∀ (H1 : Heap) (locs1 : List Loc), W1 H1 → va_S (Ah E) s.heap H1 locs1 → W p l e R s mi args below meth c H1 locs1 cells slots Q (F0 mi (pc + 3) ls st1)) : W p l e R s mi args below meth c H locs cells slots Q (F0 mi pc ls st0) := by
  subst h1
  intro T hT X
  obtain ⟨v, st₀, t, T', L, h0, X', hL, e1, e2, ⟨hv, hw, hz, hk⟩, st⟩ := hr T hT X
  cases hv
  rw [h0] at hz hk
  obtain ⟨t2, a1, b1⟩ := kk T'.heap (locs ++ L) (by rw [e1]; exact hw)
    ⟨Nat.le_trans hS.1 (by rw [e1]; exact hz), fun q h1 h2 => by rw [e1, hk q (Nat.lt_of_lt_of_le h1 hS.1) h2]; exact hS.2.1 q h1 h2, fun q hq => by
      rcases List.mem_append.mp hq with h | h
      · exact hS.2.2 q h
      · exact hL q h⟩ T' rfl X'
  exact ⟨t2, st t2 a1, b1⟩
variable {y : MethodName} {b : ByteArray} {n nL d : Nat} {ret : Option FieldType} {As st0 st1 : List Value} {W0 W1 : Heap → Prop} {r : Option Value} {own C host : String} {index a k : Nat}
theorem c_S (hM : MG l E y b n ret d As W0 W1 r) (cw : CallB R s args own index y b n ret (wsM y b n ret) (rmH d) 0 0 k ∧ (Cond.static y).before args s = true) (hx : p.tables.exec = Jvm.exec) (hb : c.code = cc) (hml : c.maxLocals = nL) (hown : s.vm.findClass own = some mi.cls) (hB : ∀ w ∈ BG, w.before args s = true) (hK : Ks E s) (hW : W0 H) (hS : va_S (Ah E) s.heap H locs) (hc : cells ≤ R.cells ∧ slots ≤ R.slots) (hn : As.length = k) (hsize : ls.size = nL) (hst : st0 = As.reverse ++ rest) (hroom : (rest.map fun v => v.category).sum ≤ 8) (h1 : r.toList ++ rest = st1) (hdg : decode cc pc = .ok (.invokestatic index, 3))
    (kk : ∀ (H1 : Heap) (locs1 : List Loc), W1 H1 → va_S (Ah E) s.heap H1 locs1 → W p l e R s mi args below meth c H1 locs1 cells slots Q (F0 mi (pc + 3) ls st1)) : W p l e R s mi args below meth c H locs cells slots Q (F0 mi pc ls st0) :=
  c_run (va_runS (Ts := BG) ⟨hx, hb, hml, hown, hB⟩ hM cw ⟨pc_blind, pc_go hK hS hW⟩ rfl hn hsize hst (lv_room hroom) hdg hc) hS h1 kk
theorem c_SN (hM : MG l E y b n ret d As W0 W1 r) (cw : va_CN R s args own index y host b n ret (wsM y b n ret) (rmH d) 0 0 k ∧ (Cond.static y).before args s = true ∧ True) (hx : p.tables.exec = Jvm.exec) (hb : c.code = cc) (hml : c.maxLocals = nL) (hown : s.vm.findClass own = some mi.cls) (hB : ∀ w ∈ BG, w.before args s = true) (hK : Ks E s) (hW : W0 H) (hS : va_S (Ah E) s.heap H locs) (hc : cells ≤ R.cells ∧ slots ≤ R.slots) (hn : As.length = k) (hsize : ls.size = nL) (hst : st0 = As.reverse ++ rest) (hroom : (rest.map fun v => v.category).sum ≤ 8) (h1 : r.toList ++ rest = st1) (hdg : decode cc pc = .ok (.invokestatic index, 3))
    (kk : ∀ (H1 : Heap) (locs1 : List Loc), W1 H1 → va_S (Ah E) s.heap H1 locs1 → W p l e R s mi args below meth c H1 locs1 cells slots Q (F0 mi (pc + 3) ls st1)) : W p l e R s mi args below meth c H locs cells slots Q (F0 mi pc ls st0) :=
  c_run (va_runSN (Ts := BG) ⟨hx, hb, hml, hown, hB⟩ hM cw ⟨pc_blind, pc_go hK hS hW⟩ rfl hn hsize hst (lv_room hroom) hdg hc) hS h1 kk
theorem c_V (hM : MG l E y b n ret d (.ref a :: As) W0 W1 r) (cw : CallW R s args own C index y b n ret (wsM y b n ret) (rmH d) 0 0 k) (hrec : ∃ cell : Cell, H[a]? = some cell ∧ cell.vm.isStatics = false ∧ s.vm.findClass C = some cell.cls) (hx : p.tables.exec = Jvm.exec) (hb : c.code = cc) (hml : c.maxLocals = nL) (hown : s.vm.findClass own = some mi.cls) (hB : ∀ w ∈ BG, w.before args s = true) (hK : Ks E s) (hW : W0 H) (hS : va_S (Ah E) s.heap H locs) (hc : cells ≤ R.cells ∧ slots ≤ R.slots) (hn : As.length = k) (hsize : ls.size = nL) (hst : st0 = As.reverse ++ .ref a :: rest) (hroom : (rest.map fun v => v.category).sum ≤ 8) (h1 : r.toList ++ rest = st1) (hdg : decode cc pc = .ok (.invokevirtual index, 3))
    (kk : ∀ (H1 : Heap) (locs1 : List Loc), W1 H1 → va_S (Ah E) s.heap H1 locs1 → W p l e R s mi args below meth c H1 locs1 cells slots Q (F0 mi (pc + 3) ls st1)) : W p l e R s mi args below meth c H locs cells slots Q (F0 mi pc ls st0) :=
  c_run (va_runV (Ts := BG) ⟨hx, hb, hml, hown, hB⟩ hM cw ⟨pc_blind, hrec, pc_go hK hS hW⟩ rfl hn hsize hst (lv_room hroom) hdg hc) hS h1 kk
theorem k_S {R : Room} {d : Nat} (hB : ∀ w ∈ BG, w.before args s = true) (hcode : Cond.code y b n ret ∈ BG) (hini : Cond.initialized y.cls ∈ BG) (hl : Cond.methodLink own index y ∈ BG) (hst : Cond.static y ∈ BG) (hd : y.cls ≠ "java/lang/invoke/MethodHandle" ∧ y.cls ≠ "java/lang/invoke/VarHandle" ∧ (parseMethodDescriptor y.desc).map (fun d => d.parameters.length) = some k) (hR : (rmH d).frames + 1 ≤ R.frames ∧ 8 + (n + 11) + (rmH d).locals ≤ R.locals) :
    CallB R s args own index y b n ret (wsM y b n ret) (rmH d) 0 0 k ∧ (Cond.static y).before args s = true :=
  ⟨callB_of k hB (wsM_good hcode) rfl rfl rfl (hB _ hini) (hB _ hl) hd hR, hB _ hst⟩
theorem k_SN {R : Room} {d : Nat} (hB : ∀ w ∈ BG, w.before args s = true) (hK : Ks E s) (hcode : Cond.code y b n ret ∈ BG) (hini : Cond.initialized y.cls ∈ BG) (hl : Cond.methodLinkNest own index y host ∈ NW) (hst : Cond.static y ∈ BG) (hd : y.cls ≠ "java/lang/invoke/MethodHandle" ∧ y.cls ≠ "java/lang/invoke/VarHandle" ∧ (parseMethodDescriptor y.desc).map (fun d => d.parameters.length) = some k) (hR : (rmH d).frames + 1 ≤ R.frames ∧ 8 + (n + 11) + (rmH d).locals ≤ R.locals) :
    va_CN R s args own index y host b n ret (wsM y b n ret) (rmH d) 0 0 k ∧ (Cond.static y).before args s = true ∧ True :=
  ⟨va_cnB k hB (wsM_good hcode) rfl rfl rfl (hK.nw hl) (hB _ hini) hd hR, hB _ hst, trivial⟩
theorem k_V {R : Room} {d : Nat} (hB : ∀ w ∈ BG, w.before args s = true) (hcode : Cond.code y b n ret ∈ BG) (hini : Cond.initialized y.cls ∈ BG) (hl : Cond.methodLink own index y ∈ BG) (hin : Cond.instanceMethod y ∈ BG) (hsel : Cond.selects C y y ∈ BG) (hd : y.cls ≠ "java/lang/invoke/MethodHandle" ∧ y.cls ≠ "java/lang/invoke/VarHandle" ∧ (parseMethodDescriptor y.desc).map (fun d => d.parameters.length) = some k) (hR : (rmH d).frames + 1 ≤ R.frames ∧ 8 + (n + 11) + (rmH d).locals ≤ R.locals) :
    CallW R s args own C index y b n ret (wsM y b n ret) (rmH d) 0 0 k :=
  ⟨callB_of k hB (wsM_good hcode) rfl rfl rfl (hB _ hini) (hB _ hl) hd hR, hB _ hin, hB _ hsel⟩
theorem lv_nm {v x : Int32} (ev : v = x) (kk : W p l e R s mi args below meth c H locs cells slots Q (F0 mi pc ls (.int v :: rest))) : W p l e R s mi args below meth c H locs cells slots Q (F0 mi pc ls (.int x :: rest)) := by subst ev; exact kk
theorem lv_nmL {v x : Int64} (ev : v = x) (kk : W p l e R s mi args below meth c H locs cells slots Q (F0 mi pc ls (.long v :: rest))) : W p l e R s mi args below meth c H locs cells slots Q (F0 mi pc ls (.long x :: rest)) := by subst ev; exact kk
end XK
theorem ob {α β : Type} {a : α} {f : α → Option β} {r : β} (h : (some a).bind f = some r) : ∃ v, v = a ∧ f v = some r := ⟨a, rfl, h⟩
theorem ob2 {α β : Type} {a : Option α} {f : α → Option β} {r : β} (h : a.bind f = some r) : ∃ v, a = some v ∧ f v = some r := Option.bind_eq_some_iff.mp h
end
section
theorem q_4 : Cond.selects RX0 yX0_areAlike yX0_areAlike ∈ BG := bg 4 (by decide +kernel) rfl
theorem q_58 : Cond.initialized RX4 ∈ BG := bg 58 (by decide +kernel) rfl
theorem q_60 : Cond.initialized RX1 ∈ BG := bg 60 (by decide +kernel) rfl
theorem q_61 : Cond.initialized RX0 ∈ BG := bg 61 (by decide +kernel) rfl
theorem q_62 : Cond.initialized RX2 ∈ BG := bg 62 (by decide +kernel) rfl
theorem q_95 : Cond.fieldLink RX1 9 "AmendsLedger$Menus" "sizes" "[I" ∈ BG := bg 95 (by decide +kernel) rfl
theorem q_96 : Cond.fieldLink RX1 15 "AmendsLedger$Menus" "costs" "[I" ∈ BG := bg 96 (by decide +kernel) rfl
theorem q_97 : Cond.fieldLink RX1 18 "AmendsLedger$Menus" "leasts" "[I" ∈ BG := bg 97 (by decide +kernel) rfl
theorem q_98 : Cond.fieldLink RX1 21 "AmendsLedger$Menus" "mosts" "[I" ∈ BG := bg 98 (by decide +kernel) rfl
theorem q_99 : Cond.fieldLink RX1 24 "AmendsLedger$Menus" "offers" "[I" ∈ BG := bg 99 (by decide +kernel) rfl
theorem q_118 : Cond.fieldLink RX0 39 "AmendsLedger$Complaints" "size" "I" ∈ BG := bg 118 (by decide +kernel) rfl
theorem q_121 : Cond.fieldLink RX0 9 "AmendsLedger$Complaints" "kinds" "[I" ∈ BG := bg 121 (by decide +kernel) rfl
theorem q_122 : Cond.fieldLink RX0 15 "AmendsLedger$Complaints" "severities" "[I" ∈ BG := bg 122 (by decide +kernel) rfl
theorem q_123 : Cond.fieldLink RX0 18 "AmendsLedger$Complaints" "customers" "[I" ∈ BG := bg 123 (by decide +kernel) rfl
theorem q_124 : Cond.fieldLink RX0 21 "AmendsLedger$Complaints" "stages" "[I" ∈ BG := bg 124 (by decide +kernel) rfl
theorem q_125 : Cond.fieldLink RX0 24 "AmendsLedger$Complaints" "amendsHad" "[I" ∈ BG := bg 125 (by decide +kernel) rfl
theorem q_126 : Cond.fieldLink RX0 27 "AmendsLedger$Complaints" "got" "[I" ∈ BG := bg 126 (by decide +kernel) rfl
theorem q_127 : Cond.fieldLink RX0 30 "AmendsLedger$Complaints" "reasons" "[I" ∈ BG := bg 127 (by decide +kernel) rfl
theorem q_128 : Cond.fieldLink RX0 33 "AmendsLedger$Complaints" "months" "[I" ∈ BG := bg 128 (by decide +kernel) rfl
theorem q_129 : Cond.fieldLink RX0 36 "AmendsLedger$Complaints" "followed" "[I" ∈ BG := bg 129 (by decide +kernel) rfl
theorem q_160 : Cond.fieldLink RX2 30 "AmendsLedger$Precedents" "size" "I" ∈ BG := bg 160 (by decide +kernel) rfl
theorem q_162 : Cond.fieldLink RX2 9 "AmendsLedger$Precedents" "amendsHeld" "[I" ∈ BG := bg 162 (by decide +kernel) rfl
theorem q_163 : Cond.fieldLink RX2 15 "AmendsLedger$Precedents" "months" "[I" ∈ BG := bg 163 (by decide +kernel) rfl
theorem q_164 : Cond.fieldLink RX2 18 "AmendsLedger$Precedents" "setters" "[I" ∈ BG := bg 164 (by decide +kernel) rfl
theorem q_165 : Cond.fieldLink RX2 21 "AmendsLedger$Precedents" "latest" "[I" ∈ BG := bg 165 (by decide +kernel) rfl
theorem q_254 : Cond.static yX4_isWithin ∈ BG := bg 254 (by decide +kernel) rfl
theorem q_255 : Cond.code yX4_isWithin cX4_isWithin 3 (some .boolean) ∈ BG := bg 255 (by decide +kernel) rfl
theorem q_272 : Cond.instanceMethod yX0_followedBy ∈ BG := bg 272 (by decide +kernel) rfl
theorem q_273 : Cond.selects RX0 yX0_followedBy yX0_followedBy ∈ BG := bg 273 (by decide +kernel) rfl
theorem q_274 : Cond.code yX0_followedBy cX0_followedBy 2 (some .int) ∈ BG := bg 274 (by decide +kernel) rfl
theorem q_275 : Cond.methodLink RX0 47 yX0_has ∈ BG := bg 275 (by decide +kernel) rfl
theorem q_276 : Cond.instanceMethod yX0_has ∈ BG := bg 276 (by decide +kernel) rfl
theorem q_277 : Cond.selects RX0 yX0_has yX0_has ∈ BG := bg 277 (by decide +kernel) rfl
theorem q_278 : Cond.code yX0_has cX0_has 2 (some .boolean) ∈ BG := bg 278 (by decide +kernel) rfl
theorem q_280 : Cond.instanceMethod yX2_has ∈ BG := bg 280 (by decide +kernel) rfl
theorem q_281 : Cond.selects RX2 yX2_has yX2_has ∈ BG := bg 281 (by decide +kernel) rfl
theorem q_282 : Cond.code yX2_has cX2_has 2 (some .boolean) ∈ BG := bg 282 (by decide +kernel) rfl
theorem q_284 : Cond.instanceMethod yX0_kindOf ∈ BG := bg 284 (by decide +kernel) rfl
theorem q_285 : Cond.selects RX0 yX0_kindOf yX0_kindOf ∈ BG := bg 285 (by decide +kernel) rfl
theorem q_286 : Cond.code yX0_kindOf cX0_kindOf 2 (some .int) ∈ BG := bg 286 (by decide +kernel) rfl
theorem q_291 : Cond.methodLink RX2 45 yX2_has ∈ BG := bg 291 (by decide +kernel) rfl
theorem q_296 : Cond.methodLink RX1 35 yX1_has ∈ BG := bg 296 (by decide +kernel) rfl
theorem q_297 : Cond.instanceMethod yX1_has ∈ BG := bg 297 (by decide +kernel) rfl
theorem q_298 : Cond.selects RX1 yX1_has yX1_has ∈ BG := bg 298 (by decide +kernel) rfl
theorem q_299 : Cond.code yX1_has cX1_has 3 (some .boolean) ∈ BG := bg 299 (by decide +kernel) rfl
theorem q_301 : Cond.static yX4_isKind ∈ BG := bg 301 (by decide +kernel) rfl
theorem q_302 : Cond.code yX4_isKind cX4_isKind 1 (some .boolean) ∈ BG := bg 302 (by decide +kernel) rfl
theorem q_304 : Cond.instanceMethod yX0_gotOf ∈ BG := bg 304 (by decide +kernel) rfl
theorem q_305 : Cond.selects RX0 yX0_gotOf yX0_gotOf ∈ BG := bg 305 (by decide +kernel) rfl
theorem q_306 : Cond.code yX0_gotOf cX0_gotOf 2 (some .int) ∈ BG := bg 306 (by decide +kernel) rfl
theorem q_365 : Cond.methodLink RX0 51 yX0_stageOf ∈ BG := bg 365 (by decide +kernel) rfl
theorem q_366 : Cond.instanceMethod yX0_stageOf ∈ BG := bg 366 (by decide +kernel) rfl
theorem q_367 : Cond.selects RX0 yX0_stageOf yX0_stageOf ∈ BG := bg 367 (by decide +kernel) rfl
theorem q_368 : Cond.code yX0_stageOf cX0_stageOf 2 (some .int) ∈ BG := bg 368 (by decide +kernel) rfl
theorem q_462 : Cond.methodLink RX0 70 yX0_gotInKind ∈ BG := bg 462 (by decide +kernel) rfl
theorem q_463 : Cond.instanceMethod yX0_gotInKind ∈ BG := bg 463 (by decide +kernel) rfl
theorem q_464 : Cond.selects RX0 yX0_gotInKind yX0_gotInKind ∈ BG := bg 464 (by decide +kernel) rfl
theorem q_465 : Cond.code yX0_gotInKind cX0_gotInKind 4 (some .int) ∈ BG := bg 465 (by decide +kernel) rfl
theorem q_466 : Cond.methodLink RX0 55 yX0_kindOf ∈ BG := bg 466 (by decide +kernel) rfl
theorem q_467 : Cond.methodLink RX0 67 yX0_gotOf ∈ BG := bg 467 (by decide +kernel) rfl
theorem q_472 : Cond.methodLink RX0 73 yX0_areAlike ∈ BG := bg 472 (by decide +kernel) rfl
theorem q_474 : Cond.instanceMethod yX0_areAlike ∈ BG := bg 474 (by decide +kernel) rfl
theorem q_475 : Cond.code yX0_areAlike cX0_areAlike 3 (some .boolean) ∈ BG := bg 475 (by decide +kernel) rfl
theorem q_476 : Cond.methodLink RX0 61 yX0_followedBy ∈ BG := bg 476 (by decide +kernel) rfl
theorem q_524 : Cond.instanceMethod yX1_sizeOf ∈ BG := bg 524 (by decide +kernel) rfl
theorem q_525 : Cond.selects RX1 yX1_sizeOf yX1_sizeOf ∈ BG := bg 525 (by decide +kernel) rfl
theorem q_526 : Cond.code yX1_sizeOf cX1_sizeOf 2 (some .int) ∈ BG := bg 526 (by decide +kernel) rfl
theorem q_543 : Cond.instanceMethod yX1_leastOf ∈ BG := bg 543 (by decide +kernel) rfl
theorem q_544 : Cond.selects RX1 yX1_leastOf yX1_leastOf ∈ BG := bg 544 (by decide +kernel) rfl
theorem q_545 : Cond.code yX1_leastOf cX1_leastOf 3 (some .int) ∈ BG := bg 545 (by decide +kernel) rfl
theorem q_547 : Cond.instanceMethod yX1_mostOf ∈ BG := bg 547 (by decide +kernel) rfl
theorem q_548 : Cond.selects RX1 yX1_mostOf yX1_mostOf ∈ BG := bg 548 (by decide +kernel) rfl
theorem q_549 : Cond.code yX1_mostOf cX1_mostOf 3 (some .int) ∈ BG := bg 549 (by decide +kernel) rfl
theorem q_551 : Cond.instanceMethod yX1_isOffered ∈ BG := bg 551 (by decide +kernel) rfl
theorem q_552 : Cond.selects RX1 yX1_isOffered yX1_isOffered ∈ BG := bg 552 (by decide +kernel) rfl
theorem q_553 : Cond.code yX1_isOffered cX1_isOffered 3 (some .boolean) ∈ BG := bg 553 (by decide +kernel) rfl
theorem q_558 : Cond.methodLink RX0 58 yX0_amendsOf ∈ BG := bg 558 (by decide +kernel) rfl
theorem q_559 : Cond.instanceMethod yX0_amendsOf ∈ BG := bg 559 (by decide +kernel) rfl
theorem q_560 : Cond.selects RX0 yX0_amendsOf yX0_amendsOf ∈ BG := bg 560 (by decide +kernel) rfl
theorem q_561 : Cond.code yX0_amendsOf cX0_amendsOf 2 (some .int) ∈ BG := bg 561 (by decide +kernel) rfl
theorem q_567 : Cond.static yX4_isGroup ∈ BG := bg 567 (by decide +kernel) rfl
theorem q_568 : Cond.code yX4_isGroup cX4_isGroup 1 (some .boolean) ∈ BG := bg 568 (by decide +kernel) rfl
theorem q_610 : Cond.instanceMethod yX0_customerOf ∈ BG := bg 610 (by decide +kernel) rfl
theorem q_611 : Cond.selects RX0 yX0_customerOf yX0_customerOf ∈ BG := bg 611 (by decide +kernel) rfl
theorem q_612 : Cond.code yX0_customerOf cX0_customerOf 2 (some .int) ∈ BG := bg 612 (by decide +kernel) rfl
theorem q_639 : Cond.methodLink RX1 39 yX1_leastOf ∈ BG := bg 639 (by decide +kernel) rfl
theorem q_640 : Cond.methodLink RX1 43 yX1_mostOf ∈ BG := bg 640 (by decide +kernel) rfl
theorem q_688 : Cond.methodLink RX0 64 yX0_customerOf ∈ BG := bg 688 (by decide +kernel) rfl
theorem q_752 : Cond.methodLink RX1 50 yX1_sizeOf ∈ BG := bg 752 (by decide +kernel) rfl
theorem q_753 : Cond.methodLink RX1 54 yX1_isOffered ∈ BG := bg 753 (by decide +kernel) rfl
theorem nw_119 : (Cond.fieldLinkNest RX4 92 "AmendsLedger$Complaints" "size" "I" "AmendsLedger") ∈ NW := List.mem_of_getElem? (i := 0) rfl
theorem nw_120 : (Cond.fieldLinkNest RX3 121 "AmendsLedger$Complaints" "size" "I" "AmendsLedger") ∈ NW := List.mem_of_getElem? (i := 1) rfl
theorem nw_161 : (Cond.fieldLinkNest RX4 234 "AmendsLedger$Precedents" "size" "I" "AmendsLedger") ∈ NW := List.mem_of_getElem? (i := 2) rfl
theorem nw_177 : (Cond.fieldLinkNest RX3 45 "AmendsLedger" "FIRST_SETTING" "[I" "AmendsLedger") ∈ NW := List.mem_of_getElem? (i := 3) rfl
theorem nw_190 : (Cond.fieldLinkNest RX4 42 "AmendsLedger$State" "menus" "LAmendsLedger$Menus;" "AmendsLedger") ∈ NW := List.mem_of_getElem? (i := 4) rfl
theorem nw_192 : (Cond.fieldLinkNest RX4 88 "AmendsLedger$State" "complaints" "LAmendsLedger$Complaints;" "AmendsLedger") ∈ NW := List.mem_of_getElem? (i := 5) rfl
theorem nw_194 : (Cond.fieldLinkNest RX4 179 "AmendsLedger$State" "precedents" "LAmendsLedger$Precedents;" "AmendsLedger") ∈ NW := List.mem_of_getElem? (i := 6) rfl
theorem nw_200 : (Cond.fieldLinkNest RX4 125 "AmendsLedger$State" "month" "I" "AmendsLedger") ∈ NW := List.mem_of_getElem? (i := 7) rfl
theorem nw_91 : (Cond.methodLinkNest RX3 11 yX1_init RX4) ∈ NW := List.mem_of_getElem? (i := 8) rfl
theorem nw_114 : (Cond.methodLinkNest RX3 20 yX0_init RX4) ∈ NW := List.mem_of_getElem? (i := 9) rfl
theorem nw_179 : (Cond.methodLinkNest RX3 48 yX4_copyAll RX4) ∈ NW := List.mem_of_getElem? (i := 10) rfl
theorem nw_300 : (Cond.methodLinkNest RX1 31 yX4_isKind RX4) ∈ NW := List.mem_of_getElem? (i := 11) rfl
theorem nw_318 : (Cond.methodLinkNest RX1 27 yX4_copyAll RX4) ∈ NW := List.mem_of_getElem? (i := 12) rfl
theorem nw_323 : (Cond.methodLinkNest RX0 43 yX4_copyAll RX4) ∈ NW := List.mem_of_getElem? (i := 13) rfl
theorem nw_328 : (Cond.methodLinkNest RX2 34 yX4_copyAll RX4) ∈ NW := List.mem_of_getElem? (i := 14) rfl
theorem nw_337 : (Cond.methodLinkNest RX3 76 yX4_isKind RX4) ∈ NW := List.mem_of_getElem? (i := 15) rfl
theorem nw_342 : (Cond.methodLinkNest RX3 72 yX4_isSetting RX4) ∈ NW := List.mem_of_getElem? (i := 16) rfl
theorem nw_573 : (Cond.methodLinkNest RX2 38 yX4_isKind RX4) ∈ NW := List.mem_of_getElem? (i := 17) rfl
theorem nw_574 : (Cond.methodLinkNest RX2 42 yX4_isGroup RX4) ∈ NW := List.mem_of_getElem? (i := 18) rfl
theorem nw_641 : (Cond.methodLinkNest RX1 46 yX4_isWithin RX4) ∈ NW := List.mem_of_getElem? (i := 19) rfl
theorem inB_of {ws : List Cond} (is : List Nat) (h : ws = is.filterMap (fun i => lw_tbl[i]?)) (g : ws.all goodWord = true) : ∀ w ∈ ws, w ∈ BG := by
  intro w hw
  have h1 := List.all_eq_true.mp g w hw
  rw [h] at hw
  obtain ⟨i, -, hi⟩ := List.mem_filterMap.mp hw
  exact bg i hi h1
theorem inB_X0 : ∀ w ∈ u_ws RX0 TX0 10, w ∈ BG := inB_of [130, 132, 134, 136, 138, 140, 142, 144, 146, 148] (by decide +kernel) (by decide +kernel)
theorem inB_X1 : ∀ w ∈ u_ws RX1 TX1 5, w ∈ BG := inB_of [100, 102, 104, 106, 108] (by decide +kernel) (by decide +kernel)
theorem inB_X2 : ∀ w ∈ u_ws RX2 TX2 5, w ∈ BG := inB_of [166, 168, 170, 172, 174] (by decide +kernel) (by decide +kernel)
theorem inB_X3 : ∀ w ∈ u_ws RX3 TX3 8, w ∈ BG := inB_of [201, 203, 205, 207, 209, 211, 213, 215] (by decide +kernel) (by decide +kernel)
theorem inB_X4 : ∀ w ∈ u_ws RX4 TX4 7, w ∈ BG := inB_of [226, 228, 230, 232, 234, 236, 238] (by decide +kernel) (by decide +kernel)
theorem inB_X5 : ∀ w ∈ u_ws RX5 TX5 12, w ∈ BG := inB_of [927, 929, 931, 933, 935, 937, 939, 941, 943, 945, 947, 949] (by decide +kernel) (by decide +kernel)
section LK
variable {p : Program} {l : Launch} {e : Env} {R : Room} {s : State} {mi : MethodId} {args : Array Value} {below : List Frame} {meth : Method} {cd : Code} {H : Heap} {locs : List Loc} {cells slots : Nat} {Q : State → Prop}
variable {cc : ByteArray} {pc : Nat} {ls : Array Slot} {rest : List Value} {E : TE} {x m : XS} {g o : Int64}
theorem gf_X0_9 (hx : p.tables.exec = Jvm.exec) (hb : cd.code = cc) (hB : ∀ w ∈ BG, w.before args s = true) (hK : Ks E s) (hown : s.vm.findClass RX0 = some mi.cls) (hW : Wd E x m g o H) {b : Nat} (hbk : IsB b) (hdg : decode cc pc = .ok (.getfield 9, 3)) (kk : W p l e R s mi args below meth cd H locs cells slots Q (F0 mi (pc + 3) ls (rf E (b + 8) :: rest))) : W p l e R s mi args below meth cd H locs cells slots Q (F0 mi pc ls (rf E (b + 7) :: rest)) :=
  r_get hx hb hB hK (own := RX0) (C := RX0) (T := TX0) (N := 10) (ci := 0) inB_X0 hown hW (hbk.l8 (j := 7) (by decide)) (cB_7 hbk) rfl 1 (by decide) rfl q_121 rfl hdg kk
theorem gf_X0_15 (hx : p.tables.exec = Jvm.exec) (hb : cd.code = cc) (hB : ∀ w ∈ BG, w.before args s = true) (hK : Ks E s) (hown : s.vm.findClass RX0 = some mi.cls) (hW : Wd E x m g o H) {b : Nat} (hbk : IsB b) (hdg : decode cc pc = .ok (.getfield 15, 3)) (kk : W p l e R s mi args below meth cd H locs cells slots Q (F0 mi (pc + 3) ls (rf E (b + 9) :: rest))) : W p l e R s mi args below meth cd H locs cells slots Q (F0 mi pc ls (rf E (b + 7) :: rest)) :=
  r_get hx hb hB hK (own := RX0) (C := RX0) (T := TX0) (N := 10) (ci := 0) inB_X0 hown hW (hbk.l8 (j := 7) (by decide)) (cB_7 hbk) rfl 2 (by decide) rfl q_122 rfl hdg kk
theorem gf_X0_18 (hx : p.tables.exec = Jvm.exec) (hb : cd.code = cc) (hB : ∀ w ∈ BG, w.before args s = true) (hK : Ks E s) (hown : s.vm.findClass RX0 = some mi.cls) (hW : Wd E x m g o H) {b : Nat} (hbk : IsB b) (hdg : decode cc pc = .ok (.getfield 18, 3)) (kk : W p l e R s mi args below meth cd H locs cells slots Q (F0 mi (pc + 3) ls (rf E (b + 10) :: rest))) : W p l e R s mi args below meth cd H locs cells slots Q (F0 mi pc ls (rf E (b + 7) :: rest)) :=
  r_get hx hb hB hK (own := RX0) (C := RX0) (T := TX0) (N := 10) (ci := 0) inB_X0 hown hW (hbk.l8 (j := 7) (by decide)) (cB_7 hbk) rfl 3 (by decide) rfl q_123 rfl hdg kk
theorem gf_X0_21 (hx : p.tables.exec = Jvm.exec) (hb : cd.code = cc) (hB : ∀ w ∈ BG, w.before args s = true) (hK : Ks E s) (hown : s.vm.findClass RX0 = some mi.cls) (hW : Wd E x m g o H) {b : Nat} (hbk : IsB b) (hdg : decode cc pc = .ok (.getfield 21, 3)) (kk : W p l e R s mi args below meth cd H locs cells slots Q (F0 mi (pc + 3) ls (rf E (b + 11) :: rest))) : W p l e R s mi args below meth cd H locs cells slots Q (F0 mi pc ls (rf E (b + 7) :: rest)) :=
  r_get hx hb hB hK (own := RX0) (C := RX0) (T := TX0) (N := 10) (ci := 0) inB_X0 hown hW (hbk.l8 (j := 7) (by decide)) (cB_7 hbk) rfl 4 (by decide) rfl q_124 rfl hdg kk
theorem gf_X0_24 (hx : p.tables.exec = Jvm.exec) (hb : cd.code = cc) (hB : ∀ w ∈ BG, w.before args s = true) (hK : Ks E s) (hown : s.vm.findClass RX0 = some mi.cls) (hW : Wd E x m g o H) {b : Nat} (hbk : IsB b) (hdg : decode cc pc = .ok (.getfield 24, 3)) (kk : W p l e R s mi args below meth cd H locs cells slots Q (F0 mi (pc + 3) ls (rf E (b + 12) :: rest))) : W p l e R s mi args below meth cd H locs cells slots Q (F0 mi pc ls (rf E (b + 7) :: rest)) :=
  r_get hx hb hB hK (own := RX0) (C := RX0) (T := TX0) (N := 10) (ci := 0) inB_X0 hown hW (hbk.l8 (j := 7) (by decide)) (cB_7 hbk) rfl 5 (by decide) rfl q_125 rfl hdg kk
theorem gf_X0_27 (hx : p.tables.exec = Jvm.exec) (hb : cd.code = cc) (hB : ∀ w ∈ BG, w.before args s = true) (hK : Ks E s) (hown : s.vm.findClass RX0 = some mi.cls) (hW : Wd E x m g o H) {b : Nat} (hbk : IsB b) (hdg : decode cc pc = .ok (.getfield 27, 3)) (kk : W p l e R s mi args below meth cd H locs cells slots Q (F0 mi (pc + 3) ls (rf E (b + 13) :: rest))) : W p l e R s mi args below meth cd H locs cells slots Q (F0 mi pc ls (rf E (b + 7) :: rest)) :=
  r_get hx hb hB hK (own := RX0) (C := RX0) (T := TX0) (N := 10) (ci := 0) inB_X0 hown hW (hbk.l8 (j := 7) (by decide)) (cB_7 hbk) rfl 6 (by decide) rfl q_126 rfl hdg kk
theorem gf_X0_30 (hx : p.tables.exec = Jvm.exec) (hb : cd.code = cc) (hB : ∀ w ∈ BG, w.before args s = true) (hK : Ks E s) (hown : s.vm.findClass RX0 = some mi.cls) (hW : Wd E x m g o H) {b : Nat} (hbk : IsB b) (hdg : decode cc pc = .ok (.getfield 30, 3)) (kk : W p l e R s mi args below meth cd H locs cells slots Q (F0 mi (pc + 3) ls (rf E (b + 14) :: rest))) : W p l e R s mi args below meth cd H locs cells slots Q (F0 mi pc ls (rf E (b + 7) :: rest)) :=
  r_get hx hb hB hK (own := RX0) (C := RX0) (T := TX0) (N := 10) (ci := 0) inB_X0 hown hW (hbk.l8 (j := 7) (by decide)) (cB_7 hbk) rfl 7 (by decide) rfl q_127 rfl hdg kk
theorem gf_X0_33 (hx : p.tables.exec = Jvm.exec) (hb : cd.code = cc) (hB : ∀ w ∈ BG, w.before args s = true) (hK : Ks E s) (hown : s.vm.findClass RX0 = some mi.cls) (hW : Wd E x m g o H) {b : Nat} (hbk : IsB b) (hdg : decode cc pc = .ok (.getfield 33, 3)) (kk : W p l e R s mi args below meth cd H locs cells slots Q (F0 mi (pc + 3) ls (rf E (b + 15) :: rest))) : W p l e R s mi args below meth cd H locs cells slots Q (F0 mi pc ls (rf E (b + 7) :: rest)) :=
  r_get hx hb hB hK (own := RX0) (C := RX0) (T := TX0) (N := 10) (ci := 0) inB_X0 hown hW (hbk.l8 (j := 7) (by decide)) (cB_7 hbk) rfl 8 (by decide) rfl q_128 rfl hdg kk
theorem gf_X0_36 (hx : p.tables.exec = Jvm.exec) (hb : cd.code = cc) (hB : ∀ w ∈ BG, w.before args s = true) (hK : Ks E s) (hown : s.vm.findClass RX0 = some mi.cls) (hW : Wd E x m g o H) {b : Nat} (hbk : IsB b) (hdg : decode cc pc = .ok (.getfield 36, 3)) (kk : W p l e R s mi args below meth cd H locs cells slots Q (F0 mi (pc + 3) ls (rf E (b + 16) :: rest))) : W p l e R s mi args below meth cd H locs cells slots Q (F0 mi pc ls (rf E (b + 7) :: rest)) :=
  r_get hx hb hB hK (own := RX0) (C := RX0) (T := TX0) (N := 10) (ci := 0) inB_X0 hown hW (hbk.l8 (j := 7) (by decide)) (cB_7 hbk) rfl 9 (by decide) rfl q_129 rfl hdg kk
theorem gf_X0_39 (hx : p.tables.exec = Jvm.exec) (hb : cd.code = cc) (hB : ∀ w ∈ BG, w.before args s = true) (hK : Ks E s) (hown : s.vm.findClass RX0 = some mi.cls) (hW : Wd E x m g o H) {b : Nat} (hbk : IsB b) (hdg : decode cc pc = .ok (.getfield 39, 3)) (kk : W p l e R s mi args below meth cd H locs cells slots Q (F0 mi (pc + 3) ls (.int (x (b + 7) 0) :: rest))) : W p l e R s mi args below meth cd H locs cells slots Q (F0 mi pc ls (rf E (b + 7) :: rest)) :=
  r_get hx hb hB hK (own := RX0) (C := RX0) (T := TX0) (N := 10) (ci := 0) inB_X0 hown hW (hbk.l8 (j := 7) (by decide)) (cB_7 hbk) rfl 0 (by decide) rfl q_118 rfl hdg kk
theorem gf_X1_9 (hx : p.tables.exec = Jvm.exec) (hb : cd.code = cc) (hB : ∀ w ∈ BG, w.before args s = true) (hK : Ks E s) (hown : s.vm.findClass RX1 = some mi.cls) (hW : Wd E x m g o H) {b : Nat} (hbk : IsB b) (hdg : decode cc pc = .ok (.getfield 9, 3)) (kk : W p l e R s mi args below meth cd H locs cells slots Q (F0 mi (pc + 3) ls (rf E (b + 2) :: rest))) : W p l e R s mi args below meth cd H locs cells slots Q (F0 mi pc ls (rf E (b + 1) :: rest)) :=
  r_get hx hb hB hK (own := RX1) (C := RX1) (T := TX1) (N := 5) (ci := 1) inB_X1 hown hW (hbk.l8 (j := 1) (by decide)) (cB_1 hbk) rfl 0 (by decide) rfl q_95 rfl hdg kk
theorem gf_X1_15 (hx : p.tables.exec = Jvm.exec) (hb : cd.code = cc) (hB : ∀ w ∈ BG, w.before args s = true) (hK : Ks E s) (hown : s.vm.findClass RX1 = some mi.cls) (hW : Wd E x m g o H) {b : Nat} (hbk : IsB b) (hdg : decode cc pc = .ok (.getfield 15, 3)) (kk : W p l e R s mi args below meth cd H locs cells slots Q (F0 mi (pc + 3) ls (rf E (b + 3) :: rest))) : W p l e R s mi args below meth cd H locs cells slots Q (F0 mi pc ls (rf E (b + 1) :: rest)) :=
  r_get hx hb hB hK (own := RX1) (C := RX1) (T := TX1) (N := 5) (ci := 1) inB_X1 hown hW (hbk.l8 (j := 1) (by decide)) (cB_1 hbk) rfl 1 (by decide) rfl q_96 rfl hdg kk
theorem gf_X1_18 (hx : p.tables.exec = Jvm.exec) (hb : cd.code = cc) (hB : ∀ w ∈ BG, w.before args s = true) (hK : Ks E s) (hown : s.vm.findClass RX1 = some mi.cls) (hW : Wd E x m g o H) {b : Nat} (hbk : IsB b) (hdg : decode cc pc = .ok (.getfield 18, 3)) (kk : W p l e R s mi args below meth cd H locs cells slots Q (F0 mi (pc + 3) ls (rf E (b + 4) :: rest))) : W p l e R s mi args below meth cd H locs cells slots Q (F0 mi pc ls (rf E (b + 1) :: rest)) :=
  r_get hx hb hB hK (own := RX1) (C := RX1) (T := TX1) (N := 5) (ci := 1) inB_X1 hown hW (hbk.l8 (j := 1) (by decide)) (cB_1 hbk) rfl 2 (by decide) rfl q_97 rfl hdg kk
theorem gf_X1_21 (hx : p.tables.exec = Jvm.exec) (hb : cd.code = cc) (hB : ∀ w ∈ BG, w.before args s = true) (hK : Ks E s) (hown : s.vm.findClass RX1 = some mi.cls) (hW : Wd E x m g o H) {b : Nat} (hbk : IsB b) (hdg : decode cc pc = .ok (.getfield 21, 3)) (kk : W p l e R s mi args below meth cd H locs cells slots Q (F0 mi (pc + 3) ls (rf E (b + 5) :: rest))) : W p l e R s mi args below meth cd H locs cells slots Q (F0 mi pc ls (rf E (b + 1) :: rest)) :=
  r_get hx hb hB hK (own := RX1) (C := RX1) (T := TX1) (N := 5) (ci := 1) inB_X1 hown hW (hbk.l8 (j := 1) (by decide)) (cB_1 hbk) rfl 3 (by decide) rfl q_98 rfl hdg kk
theorem gf_X1_24 (hx : p.tables.exec = Jvm.exec) (hb : cd.code = cc) (hB : ∀ w ∈ BG, w.before args s = true) (hK : Ks E s) (hown : s.vm.findClass RX1 = some mi.cls) (hW : Wd E x m g o H) {b : Nat} (hbk : IsB b) (hdg : decode cc pc = .ok (.getfield 24, 3)) (kk : W p l e R s mi args below meth cd H locs cells slots Q (F0 mi (pc + 3) ls (rf E (b + 6) :: rest))) : W p l e R s mi args below meth cd H locs cells slots Q (F0 mi pc ls (rf E (b + 1) :: rest)) :=
  r_get hx hb hB hK (own := RX1) (C := RX1) (T := TX1) (N := 5) (ci := 1) inB_X1 hown hW (hbk.l8 (j := 1) (by decide)) (cB_1 hbk) rfl 4 (by decide) rfl q_99 rfl hdg kk
theorem gf_X2_9 (hx : p.tables.exec = Jvm.exec) (hb : cd.code = cc) (hB : ∀ w ∈ BG, w.before args s = true) (hK : Ks E s) (hown : s.vm.findClass RX2 = some mi.cls) (hW : Wd E x m g o H) {b : Nat} (hbk : IsB b) (hdg : decode cc pc = .ok (.getfield 9, 3)) (kk : W p l e R s mi args below meth cd H locs cells slots Q (F0 mi (pc + 3) ls (rf E (b + 18) :: rest))) : W p l e R s mi args below meth cd H locs cells slots Q (F0 mi pc ls (rf E (b + 17) :: rest)) :=
  r_get hx hb hB hK (own := RX2) (C := RX2) (T := TX2) (N := 5) (ci := 2) inB_X2 hown hW (hbk.l8 (j := 17) (by decide)) (cB_17 hbk) rfl 1 (by decide) rfl q_162 rfl hdg kk
theorem gf_X2_15 (hx : p.tables.exec = Jvm.exec) (hb : cd.code = cc) (hB : ∀ w ∈ BG, w.before args s = true) (hK : Ks E s) (hown : s.vm.findClass RX2 = some mi.cls) (hW : Wd E x m g o H) {b : Nat} (hbk : IsB b) (hdg : decode cc pc = .ok (.getfield 15, 3)) (kk : W p l e R s mi args below meth cd H locs cells slots Q (F0 mi (pc + 3) ls (rf E (b + 19) :: rest))) : W p l e R s mi args below meth cd H locs cells slots Q (F0 mi pc ls (rf E (b + 17) :: rest)) :=
  r_get hx hb hB hK (own := RX2) (C := RX2) (T := TX2) (N := 5) (ci := 2) inB_X2 hown hW (hbk.l8 (j := 17) (by decide)) (cB_17 hbk) rfl 2 (by decide) rfl q_163 rfl hdg kk
theorem gf_X2_18 (hx : p.tables.exec = Jvm.exec) (hb : cd.code = cc) (hB : ∀ w ∈ BG, w.before args s = true) (hK : Ks E s) (hown : s.vm.findClass RX2 = some mi.cls) (hW : Wd E x m g o H) {b : Nat} (hbk : IsB b) (hdg : decode cc pc = .ok (.getfield 18, 3)) (kk : W p l e R s mi args below meth cd H locs cells slots Q (F0 mi (pc + 3) ls (rf E (b + 20) :: rest))) : W p l e R s mi args below meth cd H locs cells slots Q (F0 mi pc ls (rf E (b + 17) :: rest)) :=
  r_get hx hb hB hK (own := RX2) (C := RX2) (T := TX2) (N := 5) (ci := 2) inB_X2 hown hW (hbk.l8 (j := 17) (by decide)) (cB_17 hbk) rfl 3 (by decide) rfl q_164 rfl hdg kk
theorem gf_X2_21 (hx : p.tables.exec = Jvm.exec) (hb : cd.code = cc) (hB : ∀ w ∈ BG, w.before args s = true) (hK : Ks E s) (hown : s.vm.findClass RX2 = some mi.cls) (hW : Wd E x m g o H) {b : Nat} (hbk : IsB b) (hdg : decode cc pc = .ok (.getfield 21, 3)) (kk : W p l e R s mi args below meth cd H locs cells slots Q (F0 mi (pc + 3) ls (rf E (b + 21) :: rest))) : W p l e R s mi args below meth cd H locs cells slots Q (F0 mi pc ls (rf E (b + 17) :: rest)) :=
  r_get hx hb hB hK (own := RX2) (C := RX2) (T := TX2) (N := 5) (ci := 2) inB_X2 hown hW (hbk.l8 (j := 17) (by decide)) (cB_17 hbk) rfl 4 (by decide) rfl q_165 rfl hdg kk
theorem gf_X2_30 (hx : p.tables.exec = Jvm.exec) (hb : cd.code = cc) (hB : ∀ w ∈ BG, w.before args s = true) (hK : Ks E s) (hown : s.vm.findClass RX2 = some mi.cls) (hW : Wd E x m g o H) {b : Nat} (hbk : IsB b) (hdg : decode cc pc = .ok (.getfield 30, 3)) (kk : W p l e R s mi args below meth cd H locs cells slots Q (F0 mi (pc + 3) ls (.int (x (b + 17) 0) :: rest))) : W p l e R s mi args below meth cd H locs cells slots Q (F0 mi pc ls (rf E (b + 17) :: rest)) :=
  r_get hx hb hB hK (own := RX2) (C := RX2) (T := TX2) (N := 5) (ci := 2) inB_X2 hown hW (hbk.l8 (j := 17) (by decide)) (cB_17 hbk) rfl 0 (by decide) rfl q_160 rfl hdg kk
theorem pf_X0_39 (hx : p.tables.exec = Jvm.exec) (hb : cd.code = cc) (hB : ∀ w ∈ BG, w.before args s = true) (hK : Ks E s) (hown : s.vm.findClass RX0 = some mi.cls) (hW : Wd E x m g o H) (hS : va_S (Ah E) s.heap H locs) {b : Nat} (hbk : IsB b) {v : Int32} {x1 : XS} (ev : x1 = ux x (b + 7) 0 v) (hdg : decode cc pc = .ok (.putfield 39, 3)) (kk : ∀ (H1 : Heap) (locs1 : List Loc), Wd E x1 m g o H1 → va_S (Ah E) s.heap H1 locs1 → W p l e R s mi args below meth cd H1 locs1 cells slots Q (F0 mi (pc + 3) ls rest)) : W p l e R s mi args below meth cd H locs cells slots Q (F0 mi pc ls (.int v :: rf E (b + 7) :: rest)) := by
  subst ev
  exact r_put hx hb hB hK (own := RX0) (C := RX0) (T := TX0) (N := 10) (ci := 0) inB_X0 tyX0 tyX0_ok nmX0 hown hW hS (hbk.l8 (j := 7) (by decide)) (cB_7 hbk) rfl 0 (by decide) rfl rfl q_118 (ty := .int) rfl (vp_nar_int v) rfl (Nat.le_of_ble_eq_true rfl) (by rw [cB_7 hbk]; simp [ux]) (cellV_ux) hdg kk
theorem pf_X2_30 (hx : p.tables.exec = Jvm.exec) (hb : cd.code = cc) (hB : ∀ w ∈ BG, w.before args s = true) (hK : Ks E s) (hown : s.vm.findClass RX2 = some mi.cls) (hW : Wd E x m g o H) (hS : va_S (Ah E) s.heap H locs) {b : Nat} (hbk : IsB b) {v : Int32} {x1 : XS} (ev : x1 = ux x (b + 17) 0 v) (hdg : decode cc pc = .ok (.putfield 30, 3)) (kk : ∀ (H1 : Heap) (locs1 : List Loc), Wd E x1 m g o H1 → va_S (Ah E) s.heap H1 locs1 → W p l e R s mi args below meth cd H1 locs1 cells slots Q (F0 mi (pc + 3) ls rest)) : W p l e R s mi args below meth cd H locs cells slots Q (F0 mi pc ls (.int v :: rf E (b + 17) :: rest)) := by
  subst ev
  exact r_put hx hb hB hK (own := RX2) (C := RX2) (T := TX2) (N := 5) (ci := 2) inB_X2 tyX2 tyX2_ok nmX2 hown hW hS (hbk.l8 (j := 17) (by decide)) (cB_17 hbk) rfl 0 (by decide) rfl rfl q_160 (ty := .int) rfl (vp_nar_int v) rfl (Nat.le_of_ble_eq_true rfl) (by rw [cB_17 hbk]; simp [ux]) (cellV_ux) hdg kk
theorem kc_X0_47 (hB : ∀ w ∈ BG, w.before args s = true) (hR : (rmH 0).frames + 1 ≤ R.frames ∧ 8 + (2 + 11) + (rmH 0).locals ≤ R.locals) : CallW R s args RX0 RX0 47 yX0_has cX0_has 2 (some .boolean) (wsM yX0_has cX0_has 2 (some .boolean)) (rmH 0) 0 0 1 := k_V hB q_278 q_61 q_275 q_276 q_277 (by decide +kernel) hR
theorem kc_X0_51 (hB : ∀ w ∈ BG, w.before args s = true) (hR : (rmH 1).frames + 1 ≤ R.frames ∧ 8 + (2 + 11) + (rmH 1).locals ≤ R.locals) : CallW R s args RX0 RX0 51 yX0_stageOf cX0_stageOf 2 (some .int) (wsM yX0_stageOf cX0_stageOf 2 (some .int)) (rmH 1) 0 0 1 := k_V hB q_368 q_61 q_365 q_366 q_367 (by decide +kernel) hR
theorem kc_X0_55 (hB : ∀ w ∈ BG, w.before args s = true) (hR : (rmH 1).frames + 1 ≤ R.frames ∧ 8 + (2 + 11) + (rmH 1).locals ≤ R.locals) : CallW R s args RX0 RX0 55 yX0_kindOf cX0_kindOf 2 (some .int) (wsM yX0_kindOf cX0_kindOf 2 (some .int)) (rmH 1) 0 0 1 := k_V hB q_286 q_61 q_466 q_284 q_285 (by decide +kernel) hR
theorem kc_X0_58 (hB : ∀ w ∈ BG, w.before args s = true) (hR : (rmH 1).frames + 1 ≤ R.frames ∧ 8 + (2 + 11) + (rmH 1).locals ≤ R.locals) : CallW R s args RX0 RX0 58 yX0_amendsOf cX0_amendsOf 2 (some .int) (wsM yX0_amendsOf cX0_amendsOf 2 (some .int)) (rmH 1) 0 0 1 := k_V hB q_561 q_61 q_558 q_559 q_560 (by decide +kernel) hR
theorem kc_X0_61 (hB : ∀ w ∈ BG, w.before args s = true) (hR : (rmH 1).frames + 1 ≤ R.frames ∧ 8 + (2 + 11) + (rmH 1).locals ≤ R.locals) : CallW R s args RX0 RX0 61 yX0_followedBy cX0_followedBy 2 (some .int) (wsM yX0_followedBy cX0_followedBy 2 (some .int)) (rmH 1) 0 0 1 := k_V hB q_274 q_61 q_476 q_272 q_273 (by decide +kernel) hR
theorem kc_X0_64 (hB : ∀ w ∈ BG, w.before args s = true) (hR : (rmH 1).frames + 1 ≤ R.frames ∧ 8 + (2 + 11) + (rmH 1).locals ≤ R.locals) : CallW R s args RX0 RX0 64 yX0_customerOf cX0_customerOf 2 (some .int) (wsM yX0_customerOf cX0_customerOf 2 (some .int)) (rmH 1) 0 0 1 := k_V hB q_612 q_61 q_688 q_610 q_611 (by decide +kernel) hR
theorem kc_X0_67 (hB : ∀ w ∈ BG, w.before args s = true) (hR : (rmH 1).frames + 1 ≤ R.frames ∧ 8 + (2 + 11) + (rmH 1).locals ≤ R.locals) : CallW R s args RX0 RX0 67 yX0_gotOf cX0_gotOf 2 (some .int) (wsM yX0_gotOf cX0_gotOf 2 (some .int)) (rmH 1) 0 0 1 := k_V hB q_306 q_61 q_467 q_304 q_305 (by decide +kernel) hR
theorem kc_X0_70 (hB : ∀ w ∈ BG, w.before args s = true) (hR : (rmH 2).frames + 1 ≤ R.frames ∧ 8 + (4 + 11) + (rmH 2).locals ≤ R.locals) : CallW R s args RX0 RX0 70 yX0_gotInKind cX0_gotInKind 4 (some .int) (wsM yX0_gotInKind cX0_gotInKind 4 (some .int)) (rmH 2) 0 0 1 := k_V hB q_465 q_61 q_462 q_463 q_464 (by decide +kernel) hR
theorem kc_X0_73 (hB : ∀ w ∈ BG, w.before args s = true) (hR : (rmH 2).frames + 1 ≤ R.frames ∧ 8 + (3 + 11) + (rmH 2).locals ≤ R.locals) : CallW R s args RX0 RX0 73 yX0_areAlike cX0_areAlike 3 (some .boolean) (wsM yX0_areAlike cX0_areAlike 3 (some .boolean)) (rmH 2) 0 0 2 := k_V hB q_475 q_61 q_472 q_474 q_4 (by decide +kernel) hR
theorem kc_X1_31 (hB : ∀ w ∈ BG, w.before args s = true) (hK : Ks E s) (hR : (rmH 0).frames + 1 ≤ R.frames ∧ 8 + (1 + 11) + (rmH 0).locals ≤ R.locals) : va_CN R s args RX1 31 yX4_isKind RX4 cX4_isKind 1 (some .boolean) (wsM yX4_isKind cX4_isKind 1 (some .boolean)) (rmH 0) 0 0 1 ∧ (Cond.static yX4_isKind).before args s = true ∧ True := k_SN hB hK q_302 q_58 nw_300 q_301 (by decide +kernel) hR
theorem kc_X1_35 (hB : ∀ w ∈ BG, w.before args s = true) (hR : (rmH 1).frames + 1 ≤ R.frames ∧ 8 + (3 + 11) + (rmH 1).locals ≤ R.locals) : CallW R s args RX1 RX1 35 yX1_has cX1_has 3 (some .boolean) (wsM yX1_has cX1_has 3 (some .boolean)) (rmH 1) 0 0 2 := k_V hB q_299 q_60 q_296 q_297 q_298 (by decide +kernel) hR
theorem kc_X1_39 (hB : ∀ w ∈ BG, w.before args s = true) (hR : (rmH 2).frames + 1 ≤ R.frames ∧ 8 + (3 + 11) + (rmH 2).locals ≤ R.locals) : CallW R s args RX1 RX1 39 yX1_leastOf cX1_leastOf 3 (some .int) (wsM yX1_leastOf cX1_leastOf 3 (some .int)) (rmH 2) 0 0 2 := k_V hB q_545 q_60 q_639 q_543 q_544 (by decide +kernel) hR
theorem kc_X1_43 (hB : ∀ w ∈ BG, w.before args s = true) (hR : (rmH 2).frames + 1 ≤ R.frames ∧ 8 + (3 + 11) + (rmH 2).locals ≤ R.locals) : CallW R s args RX1 RX1 43 yX1_mostOf cX1_mostOf 3 (some .int) (wsM yX1_mostOf cX1_mostOf 3 (some .int)) (rmH 2) 0 0 2 := k_V hB q_549 q_60 q_640 q_547 q_548 (by decide +kernel) hR
theorem kc_X1_46 (hB : ∀ w ∈ BG, w.before args s = true) (hK : Ks E s) (hR : (rmH 0).frames + 1 ≤ R.frames ∧ 8 + (3 + 11) + (rmH 0).locals ≤ R.locals) : va_CN R s args RX1 46 yX4_isWithin RX4 cX4_isWithin 3 (some .boolean) (wsM yX4_isWithin cX4_isWithin 3 (some .boolean)) (rmH 0) 0 0 3 ∧ (Cond.static yX4_isWithin).before args s = true ∧ True := k_SN hB hK q_255 q_58 nw_641 q_254 (by decide +kernel) hR
theorem kc_X1_50 (hB : ∀ w ∈ BG, w.before args s = true) (hR : (rmH 1).frames + 1 ≤ R.frames ∧ 8 + (2 + 11) + (rmH 1).locals ≤ R.locals) : CallW R s args RX1 RX1 50 yX1_sizeOf cX1_sizeOf 2 (some .int) (wsM yX1_sizeOf cX1_sizeOf 2 (some .int)) (rmH 1) 0 0 1 := k_V hB q_526 q_60 q_752 q_524 q_525 (by decide +kernel) hR
theorem kc_X1_54 (hB : ∀ w ∈ BG, w.before args s = true) (hR : (rmH 2).frames + 1 ≤ R.frames ∧ 8 + (3 + 11) + (rmH 2).locals ≤ R.locals) : CallW R s args RX1 RX1 54 yX1_isOffered cX1_isOffered 3 (some .boolean) (wsM yX1_isOffered cX1_isOffered 3 (some .boolean)) (rmH 2) 0 0 2 := k_V hB q_553 q_60 q_753 q_551 q_552 (by decide +kernel) hR
theorem kc_X2_38 (hB : ∀ w ∈ BG, w.before args s = true) (hK : Ks E s) (hR : (rmH 0).frames + 1 ≤ R.frames ∧ 8 + (1 + 11) + (rmH 0).locals ≤ R.locals) : va_CN R s args RX2 38 yX4_isKind RX4 cX4_isKind 1 (some .boolean) (wsM yX4_isKind cX4_isKind 1 (some .boolean)) (rmH 0) 0 0 1 ∧ (Cond.static yX4_isKind).before args s = true ∧ True := k_SN hB hK q_302 q_58 nw_573 q_301 (by decide +kernel) hR
theorem kc_X2_42 (hB : ∀ w ∈ BG, w.before args s = true) (hK : Ks E s) (hR : (rmH 0).frames + 1 ≤ R.frames ∧ 8 + (1 + 11) + (rmH 0).locals ≤ R.locals) : va_CN R s args RX2 42 yX4_isGroup RX4 cX4_isGroup 1 (some .boolean) (wsM yX4_isGroup cX4_isGroup 1 (some .boolean)) (rmH 0) 0 0 1 ∧ (Cond.static yX4_isGroup).before args s = true ∧ True := k_SN hB hK q_568 q_58 nw_574 q_567 (by decide +kernel) hR
theorem kc_X2_45 (hB : ∀ w ∈ BG, w.before args s = true) (hR : (rmH 0).frames + 1 ≤ R.frames ∧ 8 + (2 + 11) + (rmH 0).locals ≤ R.locals) : CallW R s args RX2 RX2 45 yX2_has cX2_has 2 (some .boolean) (wsM yX2_has cX2_has 2 (some .boolean)) (rmH 0) 0 0 1 := k_V hB q_282 q_62 q_291 q_280 q_281 (by decide +kernel) hR
end LK
end
section
theorem dX4_isKind_0 : decode cX4_isKind 0 = .ok (.iload_n 0, 1) := by decide +kernel
theorem dX4_isKind_1 : decode cX4_isKind 1 = .ok (.ifCond .lt 12, 3) := by decide +kernel
theorem dX4_isKind_4 : decode cX4_isKind 4 = .ok (.iload_n 0, 1) := by decide +kernel
theorem dX4_isKind_5 : decode cX4_isKind 5 = .ok (.iconst 4, 1) := by decide +kernel
theorem dX4_isKind_6 : decode cX4_isKind 6 = .ok (.if_icmp .ge 7, 3) := by decide +kernel
theorem dX4_isKind_9 : decode cX4_isKind 9 = .ok (.iconst 1, 1) := by decide +kernel
theorem dX4_isKind_10 : decode cX4_isKind 10 = .ok (.goto 4, 3) := by decide +kernel
theorem dX4_isKind_13 : decode cX4_isKind 13 = .ok (.iconst 0, 1) := by decide +kernel
theorem dX4_isKind_14 : decode cX4_isKind 14 = .ok (.ireturn, 1) := by decide +kernel
theorem dX1_has_0 : decode cX1_has 0 = .ok (.iload_n 1, 1) := by decide +kernel
theorem dX1_has_1 : decode cX1_has 1 = .ok (.invokestatic 31, 3) := by decide +kernel
theorem dX1_has_4 : decode cX1_has 4 = .ok (.ifCond .eq 21, 3) := by decide +kernel
theorem dX1_has_7 : decode cX1_has 7 = .ok (.iload_n 2, 1) := by decide +kernel
theorem dX1_has_8 : decode cX1_has 8 = .ok (.ifCond .lt 17, 3) := by decide +kernel
theorem dX1_has_11 : decode cX1_has 11 = .ok (.iload_n 2, 1) := by decide +kernel
theorem dX1_has_12 : decode cX1_has 12 = .ok (.aload_n 0, 1) := by decide +kernel
theorem dX1_has_13 : decode cX1_has 13 = .ok (.getfield 9, 3) := by decide +kernel
theorem dX1_has_16 : decode cX1_has 16 = .ok (.iload_n 1, 1) := by decide +kernel
theorem dX1_has_17 : decode cX1_has 17 = .ok (.iaload, 1) := by decide +kernel
theorem dX1_has_18 : decode cX1_has 18 = .ok (.if_icmp .ge 7, 3) := by decide +kernel
theorem dX1_has_21 : decode cX1_has 21 = .ok (.iconst 1, 1) := by decide +kernel
theorem dX1_has_22 : decode cX1_has 22 = .ok (.goto 4, 3) := by decide +kernel
theorem dX1_has_25 : decode cX1_has 25 = .ok (.iconst 0, 1) := by decide +kernel
theorem dX1_has_26 : decode cX1_has 26 = .ok (.ireturn, 1) := by decide +kernel
theorem dX1_sizeOf_0 : decode cX1_sizeOf 0 = .ok (.iload_n 1, 1) := by decide +kernel
theorem dX1_sizeOf_1 : decode cX1_sizeOf 1 = .ok (.invokestatic 31, 3) := by decide +kernel
theorem dX1_sizeOf_4 : decode cX1_sizeOf 4 = .ok (.ifCond .eq 12, 3) := by decide +kernel
theorem dX1_sizeOf_7 : decode cX1_sizeOf 7 = .ok (.aload_n 0, 1) := by decide +kernel
theorem dX1_sizeOf_8 : decode cX1_sizeOf 8 = .ok (.getfield 9, 3) := by decide +kernel
theorem dX1_sizeOf_11 : decode cX1_sizeOf 11 = .ok (.iload_n 1, 1) := by decide +kernel
theorem dX1_sizeOf_12 : decode cX1_sizeOf 12 = .ok (.iaload, 1) := by decide +kernel
theorem dX1_sizeOf_13 : decode cX1_sizeOf 13 = .ok (.goto 4, 3) := by decide +kernel
theorem dX1_sizeOf_16 : decode cX1_sizeOf 16 = .ok (.iconst 0, 1) := by decide +kernel
theorem dX1_sizeOf_17 : decode cX1_sizeOf 17 = .ok (.ireturn, 1) := by decide +kernel
theorem dX0_has_0 : decode cX0_has 0 = .ok (.iload_n 1, 1) := by decide +kernel
theorem dX0_has_1 : decode cX0_has 1 = .ok (.ifCond .lt 15, 3) := by decide +kernel
theorem dX0_has_4 : decode cX0_has 4 = .ok (.iload_n 1, 1) := by decide +kernel
theorem dX0_has_5 : decode cX0_has 5 = .ok (.aload_n 0, 1) := by decide +kernel
theorem dX0_has_6 : decode cX0_has 6 = .ok (.getfield 39, 3) := by decide +kernel
theorem dX0_has_9 : decode cX0_has 9 = .ok (.if_icmp .ge 7, 3) := by decide +kernel
theorem dX0_has_12 : decode cX0_has 12 = .ok (.iconst 1, 1) := by decide +kernel
theorem dX0_has_13 : decode cX0_has 13 = .ok (.goto 4, 3) := by decide +kernel
theorem dX0_has_16 : decode cX0_has 16 = .ok (.iconst 0, 1) := by decide +kernel
theorem dX0_has_17 : decode cX0_has 17 = .ok (.ireturn, 1) := by decide +kernel
theorem dX0_stageOf_0 : decode cX0_stageOf 0 = .ok (.aload_n 0, 1) := by decide +kernel
theorem dX0_stageOf_1 : decode cX0_stageOf 1 = .ok (.iload_n 1, 1) := by decide +kernel
theorem dX0_stageOf_2 : decode cX0_stageOf 2 = .ok (.invokevirtual 47, 3) := by decide +kernel
theorem dX0_stageOf_5 : decode cX0_stageOf 5 = .ok (.ifCond .eq 12, 3) := by decide +kernel
theorem dX0_stageOf_8 : decode cX0_stageOf 8 = .ok (.aload_n 0, 1) := by decide +kernel
theorem dX0_stageOf_9 : decode cX0_stageOf 9 = .ok (.getfield 21, 3) := by decide +kernel
theorem dX0_stageOf_12 : decode cX0_stageOf 12 = .ok (.iload_n 1, 1) := by decide +kernel
theorem dX0_stageOf_13 : decode cX0_stageOf 13 = .ok (.iaload, 1) := by decide +kernel
theorem dX0_stageOf_14 : decode cX0_stageOf 14 = .ok (.goto 4, 3) := by decide +kernel
theorem dX0_stageOf_17 : decode cX0_stageOf 17 = .ok (.iconst (-1), 1) := by decide +kernel
theorem dX0_stageOf_18 : decode cX0_stageOf 18 = .ok (.ireturn, 1) := by decide +kernel
theorem dX0_inStage_0 : decode cX0_inStage 0 = .ok (.iconst 0, 1) := by decide +kernel
theorem dX0_inStage_1 : decode cX0_inStage 1 = .ok (.istore_n 2, 1) := by decide +kernel
theorem dX0_inStage_2 : decode cX0_inStage 2 = .ok (.iconst 0, 1) := by decide +kernel
theorem dX0_inStage_3 : decode cX0_inStage 3 = .ok (.istore_n 3, 1) := by decide +kernel
theorem dX0_inStage_4 : decode cX0_inStage 4 = .ok (.iload_n 3, 1) := by decide +kernel
theorem dX0_inStage_5 : decode cX0_inStage 5 = .ok (.aload_n 0, 1) := by decide +kernel
theorem dX0_inStage_6 : decode cX0_inStage 6 = .ok (.getfield 39, 3) := by decide +kernel
theorem dX0_inStage_9 : decode cX0_inStage 9 = .ok (.if_icmp .ge 21, 3) := by decide +kernel
theorem dX0_inStage_12 : decode cX0_inStage 12 = .ok (.aload_n 0, 1) := by decide +kernel
theorem dX0_inStage_13 : decode cX0_inStage 13 = .ok (.iload_n 3, 1) := by decide +kernel
theorem dX0_inStage_14 : decode cX0_inStage 14 = .ok (.invokevirtual 51, 3) := by decide +kernel
theorem dX0_inStage_17 : decode cX0_inStage 17 = .ok (.iload_n 1, 1) := by decide +kernel
theorem dX0_inStage_18 : decode cX0_inStage 18 = .ok (.if_icmp .ne 6, 3) := by decide +kernel
theorem dX0_inStage_21 : decode cX0_inStage 21 = .ok (.iinc 2 1, 3) := by decide +kernel
theorem dX0_inStage_24 : decode cX0_inStage 24 = .ok (.iinc 3 1, 3) := by decide +kernel
theorem dX0_inStage_27 : decode cX0_inStage 27 = .ok (.goto (-23), 3) := by decide +kernel
theorem dX0_inStage_30 : decode cX0_inStage 30 = .ok (.iload_n 2, 1) := by decide +kernel
theorem dX0_inStage_31 : decode cX0_inStage 31 = .ok (.ireturn, 1) := by decide +kernel
theorem dX0_add_0 : decode cX0_add 0 = .ok (.aload_n 0, 1) := by decide +kernel
theorem dX0_add_1 : decode cX0_add 1 = .ok (.getfield 39, 3) := by decide +kernel
theorem dX0_add_4 : decode cX0_add 4 = .ok (.bipush 24, 2) := by decide +kernel
theorem dX0_add_6 : decode cX0_add 6 = .ok (.if_icmp .lt 5, 3) := by decide +kernel
theorem dX0_add_9 : decode cX0_add 9 = .ok (.iconst (-1), 1) := by decide +kernel
theorem dX0_add_10 : decode cX0_add 10 = .ok (.ireturn, 1) := by decide +kernel
theorem dX0_add_11 : decode cX0_add 11 = .ok (.aload_n 0, 1) := by decide +kernel
theorem dX0_add_12 : decode cX0_add 12 = .ok (.getfield 39, 3) := by decide +kernel
theorem dX0_add_15 : decode cX0_add 15 = .ok (.istore 4, 2) := by decide +kernel
theorem dX0_add_17 : decode cX0_add 17 = .ok (.aload_n 0, 1) := by decide +kernel
theorem dX0_add_18 : decode cX0_add 18 = .ok (.getfield 9, 3) := by decide +kernel
theorem dX0_add_21 : decode cX0_add 21 = .ok (.iload 4, 2) := by decide +kernel
theorem dX0_add_23 : decode cX0_add 23 = .ok (.iload_n 1, 1) := by decide +kernel
theorem dX0_add_24 : decode cX0_add 24 = .ok (.iastore, 1) := by decide +kernel
theorem dX0_add_25 : decode cX0_add 25 = .ok (.aload_n 0, 1) := by decide +kernel
theorem dX0_add_26 : decode cX0_add 26 = .ok (.getfield 15, 3) := by decide +kernel
theorem dX0_add_29 : decode cX0_add 29 = .ok (.iload 4, 2) := by decide +kernel
theorem dX0_add_31 : decode cX0_add 31 = .ok (.iload_n 2, 1) := by decide +kernel
theorem dX0_add_32 : decode cX0_add 32 = .ok (.iastore, 1) := by decide +kernel
theorem dX0_add_33 : decode cX0_add 33 = .ok (.aload_n 0, 1) := by decide +kernel
theorem dX0_add_34 : decode cX0_add 34 = .ok (.getfield 18, 3) := by decide +kernel
theorem dX0_add_37 : decode cX0_add 37 = .ok (.iload 4, 2) := by decide +kernel
theorem dX0_add_39 : decode cX0_add 39 = .ok (.iload_n 3, 1) := by decide +kernel
theorem dX0_add_40 : decode cX0_add 40 = .ok (.iastore, 1) := by decide +kernel
theorem dX0_add_41 : decode cX0_add 41 = .ok (.aload_n 0, 1) := by decide +kernel
theorem dX0_add_42 : decode cX0_add 42 = .ok (.getfield 21, 3) := by decide +kernel
theorem dX0_add_45 : decode cX0_add 45 = .ok (.iload 4, 2) := by decide +kernel
theorem dX0_add_47 : decode cX0_add 47 = .ok (.iconst 0, 1) := by decide +kernel
theorem dX0_add_48 : decode cX0_add 48 = .ok (.iastore, 1) := by decide +kernel
theorem dX0_add_49 : decode cX0_add 49 = .ok (.aload_n 0, 1) := by decide +kernel
theorem dX0_add_50 : decode cX0_add 50 = .ok (.getfield 24, 3) := by decide +kernel
theorem dX0_add_53 : decode cX0_add 53 = .ok (.iload 4, 2) := by decide +kernel
theorem dX0_add_55 : decode cX0_add 55 = .ok (.iconst (-1), 1) := by decide +kernel
theorem dX0_add_56 : decode cX0_add 56 = .ok (.iastore, 1) := by decide +kernel
theorem dX0_add_57 : decode cX0_add 57 = .ok (.aload_n 0, 1) := by decide +kernel
theorem dX0_add_58 : decode cX0_add 58 = .ok (.getfield 27, 3) := by decide +kernel
theorem dX0_add_61 : decode cX0_add 61 = .ok (.iload 4, 2) := by decide +kernel
theorem dX0_add_63 : decode cX0_add 63 = .ok (.iconst 0, 1) := by decide +kernel
theorem dX0_add_64 : decode cX0_add 64 = .ok (.iastore, 1) := by decide +kernel
theorem dX0_add_65 : decode cX0_add 65 = .ok (.aload_n 0, 1) := by decide +kernel
theorem dX0_add_66 : decode cX0_add 66 = .ok (.getfield 30, 3) := by decide +kernel
theorem dX0_add_69 : decode cX0_add 69 = .ok (.iload 4, 2) := by decide +kernel
theorem dX0_add_71 : decode cX0_add 71 = .ok (.iconst (-1), 1) := by decide +kernel
theorem dX0_add_72 : decode cX0_add 72 = .ok (.iastore, 1) := by decide +kernel
theorem dX0_add_73 : decode cX0_add 73 = .ok (.aload_n 0, 1) := by decide +kernel
theorem dX0_add_74 : decode cX0_add 74 = .ok (.getfield 33, 3) := by decide +kernel
theorem dX0_add_77 : decode cX0_add 77 = .ok (.iload 4, 2) := by decide +kernel
theorem dX0_add_79 : decode cX0_add 79 = .ok (.iconst (-1), 1) := by decide +kernel
theorem dX0_add_80 : decode cX0_add 80 = .ok (.iastore, 1) := by decide +kernel
theorem dX0_add_81 : decode cX0_add 81 = .ok (.aload_n 0, 1) := by decide +kernel
theorem dX0_add_82 : decode cX0_add 82 = .ok (.getfield 36, 3) := by decide +kernel
theorem dX0_add_85 : decode cX0_add 85 = .ok (.iload 4, 2) := by decide +kernel
theorem dX0_add_87 : decode cX0_add 87 = .ok (.iconst (-1), 1) := by decide +kernel
theorem dX0_add_88 : decode cX0_add 88 = .ok (.iastore, 1) := by decide +kernel
theorem dX0_add_89 : decode cX0_add 89 = .ok (.aload_n 0, 1) := by decide +kernel
theorem dX0_add_90 : decode cX0_add 90 = .ok (.iload 4, 2) := by decide +kernel
theorem dX0_add_92 : decode cX0_add 92 = .ok (.iconst 1, 1) := by decide +kernel
theorem dX0_add_93 : decode cX0_add 93 = .ok (.iadd, 1) := by decide +kernel
theorem dX0_add_94 : decode cX0_add 94 = .ok (.putfield 39, 3) := by decide +kernel
theorem dX0_add_97 : decode cX0_add 97 = .ok (.iload 4, 2) := by decide +kernel
theorem dX0_add_99 : decode cX0_add 99 = .ok (.ireturn, 1) := by decide +kernel
def f_X4_isKind (a0 : Int32) : Option (Int32) :=
    if (a0 < 0 : Prop) then
      some 0
    else
      (if (4 ≤ a0 : Prop) then
        some 0
      else
        some 1)
set_option maxRecDepth 100000 in
set_option maxHeartbeats 4000000 in
theorem p_X4_isKind (l : Launch) (E : TE) (x m : XS) (g o : Int64) {a0 : Int32} {r : Int32} (hf : f_X4_isKind a0 = some r) : MG l E yX4_isKind cX4_isKind 1 (some .boolean) 0 [.int a0] (Wd E x m g o) (Wd E x m g o) (some (.int r)) := by
  unfold f_X4_isKind at hf
  refine m_in (by decide) (Nat.le_of_ble_eq_true rfl) ?_
  intro p e s mi args below meth c H ls hx hb hr hlk hml hown hB hK hW hS hl
  have hl : lv_has ls 1 [(0, .int a0)] := hl
  refine lv_iload_n hx hb dX4_isKind_0 rfl (lv_at hl 0 rfl) ?_
  refine lv_if_lt (tgt := 13) hx hb dX4_isKind_1 (by decide) (fun c1 => ?_) (fun c1 => ?_)
  · rw [if_pos c1] at hf
    refine lv_iconst (v := 0) hx hb dX4_isKind_13 (by decide) ?_
    cases hf
    exact e_z hx hb hr hlk (Or.inl rfl) hW hS dX4_isKind_14
  · rw [if_neg c1] at hf
    refine lv_iload_n hx hb dX4_isKind_4 rfl (lv_at hl 0 rfl) ?_
    refine lv_iconst (v := 4) hx hb dX4_isKind_5 (by decide) ?_
    refine lv_icmp_ge (tgt := 13) hx hb dX4_isKind_6 (by decide) (fun c6 => ?_) (fun c6 => ?_)
    · rw [if_pos c6] at hf
      refine lv_iconst (v := 0) hx hb dX4_isKind_13 (by decide) ?_
      cases hf
      exact e_z hx hb hr hlk (Or.inl rfl) hW hS dX4_isKind_14
    · rw [if_neg c6] at hf
      refine lv_iconst (v := 1) hx hb dX4_isKind_9 (by decide) ?_
      refine lv_goto (tgt := 14) hx hb dX4_isKind_10 (by decide) ?_
      cases hf
      exact e_z hx hb hr hlk (Or.inr rfl) hW hS dX4_isKind_14
def f_X1_has (b : Nat) (x : XS) (a0 : Int32) (a1 : Int32) : Option (Int32) :=
    (f_X4_isKind a0).bind fun v1 =>
    if (v1 = 0 : Prop) then
      some 0
    else
      (if (a1 < 0 : Prop) then
        some 0
      else
        ((aget 4 (x (b + 2)) a0).bind fun v17 =>
        if (v17 ≤ a1 : Prop) then
          some 0
        else
          some 1))
set_option maxRecDepth 100000 in
set_option maxHeartbeats 4000000 in
theorem p_X1_has (l : Launch) (E : TE) {b : Nat} (hB_b : IsB b) (x m : XS) (g o : Int64) {a0 : Int32} {a1 : Int32} {r : Int32} (hf : f_X1_has b x a0 a1 = some r) : MG l E yX1_has cX1_has 3 (some .boolean) 1 [rf E (b + 1), .int a0, .int a1] (Wd E x m g o) (Wd E x m g o) (some (.int r)) := by
  unfold f_X1_has at hf
  refine m_in (by decide) (Nat.le_of_ble_eq_true rfl) ?_
  intro p e s mi args below meth c H ls hx hb hr hlk hml hown hB hK hW hS hl
  have hl : lv_has ls 3 [(0, rf E (b + 1)), (1, .int a0), (2, .int a1)] := hl
  refine lv_iload_n hx hb dX1_has_0 rfl (lv_at hl 1 rfl) ?_
  obtain ⟨v1, e1, hf⟩ := ob2 hf
  refine c_SN (As := [.int a0]) (st1 := [.int v1]) (rest := []) (p_X4_isKind l E x m g o e1) (kc_X1_31 hB hK ⟨Nat.le_of_ble_eq_true rfl, Nat.le_of_ble_eq_true rfl⟩) hx hb hml hown hB hK hW hS ⟨Nat.le_refl 0, Nat.le_refl 0⟩ rfl hl.1 rfl (Nat.le_of_ble_eq_true rfl) rfl dX1_has_1 (fun H locs hW hS => ?_)
  refine lv_if_eq (tgt := 25) hx hb dX1_has_4 (by decide) (fun c4 => ?_) (fun c4 => ?_)
  · rw [if_pos c4] at hf
    refine lv_iconst (v := 0) hx hb dX1_has_25 (by decide) ?_
    cases hf
    exact e_z hx hb hr hlk (Or.inl rfl) hW hS dX1_has_26
  · rw [if_neg c4] at hf
    refine lv_iload_n hx hb dX1_has_7 rfl (lv_at hl 2 rfl) ?_
    refine lv_if_lt (tgt := 25) hx hb dX1_has_8 (by decide) (fun c8 => ?_) (fun c8 => ?_)
    · rw [if_pos c8] at hf
      refine lv_iconst (v := 0) hx hb dX1_has_25 (by decide) ?_
      cases hf
      exact e_z hx hb hr hlk (Or.inl rfl) hW hS dX1_has_26
    · rw [if_neg c8] at hf
      refine lv_iload_n hx hb dX1_has_11 rfl (lv_at hl 2 rfl) ?_
      refine lv_aload_n hx hb dX1_has_12 rfl (lv_at hl 0 rfl) ?_
      refine gf_X1_9 hx hb hB hK hown hW hB_b dX1_has_13 ?_
      refine lv_iload_n hx hb dX1_has_16 rfl (lv_at hl 1 rfl) ?_
      obtain ⟨v17, e17, hf⟩ := ob2 hf
      refine r_iald hx hb hK hW (hB_b.l8 (by decide)) (cB_2 hB_b) e17 dX1_has_17 ?_
      refine lv_icmp_ge (tgt := 25) hx hb dX1_has_18 (by decide) (fun c18 => ?_) (fun c18 => ?_)
      · rw [if_pos c18] at hf
        refine lv_iconst (v := 0) hx hb dX1_has_25 (by decide) ?_
        cases hf
        exact e_z hx hb hr hlk (Or.inl rfl) hW hS dX1_has_26
      · rw [if_neg c18] at hf
        refine lv_iconst (v := 1) hx hb dX1_has_21 (by decide) ?_
        refine lv_goto (tgt := 26) hx hb dX1_has_22 (by decide) ?_
        cases hf
        exact e_z hx hb hr hlk (Or.inr rfl) hW hS dX1_has_26
def f_X1_sizeOf (b : Nat) (x : XS) (a0 : Int32) : Option (Int32) :=
    (f_X4_isKind a0).bind fun v1 =>
    if (v1 = 0 : Prop) then
      some 0
    else
      ((aget 4 (x (b + 2)) a0).bind fun v12 =>
      some v12)
set_option maxRecDepth 100000 in
set_option maxHeartbeats 4000000 in
theorem p_X1_sizeOf (l : Launch) (E : TE) {b : Nat} (hB_b : IsB b) (x m : XS) (g o : Int64) {a0 : Int32} {r : Int32} (hf : f_X1_sizeOf b x a0 = some r) : MG l E yX1_sizeOf cX1_sizeOf 2 (some .int) 1 [rf E (b + 1), .int a0] (Wd E x m g o) (Wd E x m g o) (some (.int r)) := by
  unfold f_X1_sizeOf at hf
  refine m_in (by decide) (Nat.le_of_ble_eq_true rfl) ?_
  intro p e s mi args below meth c H ls hx hb hr hlk hml hown hB hK hW hS hl
  have hl : lv_has ls 2 [(0, rf E (b + 1)), (1, .int a0)] := hl
  refine lv_iload_n hx hb dX1_sizeOf_0 rfl (lv_at hl 1 rfl) ?_
  obtain ⟨v1, e1, hf⟩ := ob2 hf
  refine c_SN (As := [.int a0]) (st1 := [.int v1]) (rest := []) (p_X4_isKind l E x m g o e1) (kc_X1_31 hB hK ⟨Nat.le_of_ble_eq_true rfl, Nat.le_of_ble_eq_true rfl⟩) hx hb hml hown hB hK hW hS ⟨Nat.le_refl 0, Nat.le_refl 0⟩ rfl hl.1 rfl (Nat.le_of_ble_eq_true rfl) rfl dX1_sizeOf_1 (fun H locs hW hS => ?_)
  refine lv_if_eq (tgt := 16) hx hb dX1_sizeOf_4 (by decide) (fun c4 => ?_) (fun c4 => ?_)
  · rw [if_pos c4] at hf
    refine lv_iconst (v := 0) hx hb dX1_sizeOf_16 (by decide) ?_
    cases hf
    exact e_i hx hb hr hlk hW hS dX1_sizeOf_17
  · rw [if_neg c4] at hf
    refine lv_aload_n hx hb dX1_sizeOf_7 rfl (lv_at hl 0 rfl) ?_
    refine gf_X1_9 hx hb hB hK hown hW hB_b dX1_sizeOf_8 ?_
    refine lv_iload_n hx hb dX1_sizeOf_11 rfl (lv_at hl 1 rfl) ?_
    obtain ⟨v12, e12, hf⟩ := ob2 hf
    refine r_iald hx hb hK hW (hB_b.l8 (by decide)) (cB_2 hB_b) e12 dX1_sizeOf_12 ?_
    refine lv_goto (tgt := 17) hx hb dX1_sizeOf_13 (by decide) ?_
    cases hf
    exact e_i hx hb hr hlk hW hS dX1_sizeOf_17
def f_X0_has (b : Nat) (x : XS) (a0 : Int32) : Option (Int32) :=
    if (a0 < 0 : Prop) then
      some 0
    else
      (if ((x (b + 7) 0) ≤ a0 : Prop) then
        some 0
      else
        some 1)
set_option maxRecDepth 100000 in
set_option maxHeartbeats 4000000 in
theorem p_X0_has (l : Launch) (E : TE) {b : Nat} (hB_b : IsB b) (x m : XS) (g o : Int64) {a0 : Int32} {r : Int32} (hf : f_X0_has b x a0 = some r) : MG l E yX0_has cX0_has 2 (some .boolean) 0 [rf E (b + 7), .int a0] (Wd E x m g o) (Wd E x m g o) (some (.int r)) := by
  unfold f_X0_has at hf
  refine m_in (by decide) (Nat.le_of_ble_eq_true rfl) ?_
  intro p e s mi args below meth c H ls hx hb hr hlk hml hown hB hK hW hS hl
  have hl : lv_has ls 2 [(0, rf E (b + 7)), (1, .int a0)] := hl
  refine lv_iload_n hx hb dX0_has_0 rfl (lv_at hl 1 rfl) ?_
  refine lv_if_lt (tgt := 16) hx hb dX0_has_1 (by decide) (fun c1 => ?_) (fun c1 => ?_)
  · rw [if_pos c1] at hf
    refine lv_iconst (v := 0) hx hb dX0_has_16 (by decide) ?_
    cases hf
    exact e_z hx hb hr hlk (Or.inl rfl) hW hS dX0_has_17
  · rw [if_neg c1] at hf
    refine lv_iload_n hx hb dX0_has_4 rfl (lv_at hl 1 rfl) ?_
    refine lv_aload_n hx hb dX0_has_5 rfl (lv_at hl 0 rfl) ?_
    refine gf_X0_39 hx hb hB hK hown hW hB_b dX0_has_6 ?_
    refine lv_icmp_ge (tgt := 16) hx hb dX0_has_9 (by decide) (fun c9 => ?_) (fun c9 => ?_)
    · rw [if_pos c9] at hf
      refine lv_iconst (v := 0) hx hb dX0_has_16 (by decide) ?_
      cases hf
      exact e_z hx hb hr hlk (Or.inl rfl) hW hS dX0_has_17
    · rw [if_neg c9] at hf
      refine lv_iconst (v := 1) hx hb dX0_has_12 (by decide) ?_
      refine lv_goto (tgt := 17) hx hb dX0_has_13 (by decide) ?_
      cases hf
      exact e_z hx hb hr hlk (Or.inr rfl) hW hS dX0_has_17
def f_X0_stageOf (b : Nat) (x : XS) (a0 : Int32) : Option (Int32) :=
    (f_X0_has b x a0).bind fun v2 =>
    if (v2 = 0 : Prop) then
      some (-1)
    else
      ((aget 24 (x (b + 11)) a0).bind fun v13 =>
      some v13)
set_option maxRecDepth 100000 in
set_option maxHeartbeats 4000000 in
theorem p_X0_stageOf (l : Launch) (E : TE) {b : Nat} (hB_b : IsB b) (x m : XS) (g o : Int64) {a0 : Int32} {r : Int32} (hf : f_X0_stageOf b x a0 = some r) : MG l E yX0_stageOf cX0_stageOf 2 (some .int) 1 [rf E (b + 7), .int a0] (Wd E x m g o) (Wd E x m g o) (some (.int r)) := by
  unfold f_X0_stageOf at hf
  refine m_in (by decide) (Nat.le_of_ble_eq_true rfl) ?_
  intro p e s mi args below meth c H ls hx hb hr hlk hml hown hB hK hW hS hl
  have hl : lv_has ls 2 [(0, rf E (b + 7)), (1, .int a0)] := hl
  refine lv_aload_n hx hb dX0_stageOf_0 rfl (lv_at hl 0 rfl) ?_
  refine lv_iload_n hx hb dX0_stageOf_1 rfl (lv_at hl 1 rfl) ?_
  obtain ⟨v2, e2, hf⟩ := ob2 hf
  refine c_V (As := [.int a0]) (st1 := [.int v2]) (rest := []) (p_X0_has l E hB_b x m g o e2) (kc_X0_47 hB ⟨Nat.le_of_ble_eq_true rfl, Nat.le_of_ble_eq_true rfl⟩) (Wd.rec hK hW (hB_b.l8 (j := 7) (by decide)) (cB_7 hB_b) (ci := 0) rfl) hx hb hml hown hB hK hW hS ⟨Nat.le_refl 0, Nat.le_refl 0⟩ rfl hl.1 rfl (Nat.le_of_ble_eq_true rfl) rfl dX0_stageOf_2 (fun H locs hW hS => ?_)
  refine lv_if_eq (tgt := 17) hx hb dX0_stageOf_5 (by decide) (fun c5 => ?_) (fun c5 => ?_)
  · rw [if_pos c5] at hf
    refine lv_iconst (v := (-1)) hx hb dX0_stageOf_17 (by decide) ?_
    cases hf
    exact e_i hx hb hr hlk hW hS dX0_stageOf_18
  · rw [if_neg c5] at hf
    refine lv_aload_n hx hb dX0_stageOf_8 rfl (lv_at hl 0 rfl) ?_
    refine gf_X0_21 hx hb hB hK hown hW hB_b dX0_stageOf_9 ?_
    refine lv_iload_n hx hb dX0_stageOf_12 rfl (lv_at hl 1 rfl) ?_
    obtain ⟨v13, e13, hf⟩ := ob2 hf
    refine r_iald hx hb hK hW (hB_b.l8 (by decide)) (cB_11 hB_b) e13 dX0_stageOf_13 ?_
    refine lv_goto (tgt := 18) hx hb dX0_stageOf_14 (by decide) ?_
    cases hf
    exact e_i hx hb hr hlk hW hS dX0_stageOf_18
def f_X0_inStage_24 (b : Nat) (x : XS) (k4 : Int32 → Int32 → Int32 → Option (Int32)) (l1_24 : Int32) (l2_24 : Int32) (l3_24 : Int32) : Option (Int32) :=
    (some (l3_24 + 1)).bind fun v24 =>
    k4 l1_24 l2_24 v24
def f_X0_inStage_4 (b : Nat) (x : XS) : Nat → Int32 → Int32 → Int32 → Option (Int32)
  | 0, _, _, _ => none
  | n4 + 1, l1_4, l2_4, l3_4 =>
    if ((x (b + 7) 0) ≤ l3_4 : Prop) then
      some l2_4
    else
      ((f_X0_stageOf b x l3_4).bind fun v14 =>
      if (v14 = l1_4 : Prop) then
        ((some (l2_4 + 1)).bind fun v21 =>
        f_X0_inStage_24 b x (f_X0_inStage_4 b x n4) l1_4 v21 l3_4)
      else
        f_X0_inStage_24 b x (f_X0_inStage_4 b x n4) l1_4 l2_4 l3_4)
def f_X0_inStage (b : Nat) (x : XS) (a0 : Int32) : Option (Int32) :=
    f_X0_inStage_4 b x 4096 a0 0 0
set_option maxRecDepth 100000 in
set_option maxHeartbeats 4000000 in
theorem p_X0_inStage (l : Launch) (E : TE) {b : Nat} (hB_b : IsB b) (x m : XS) (g o : Int64) {a0 : Int32} {r : Int32} (hf : f_X0_inStage b x a0 = some r) : MG l E yX0_inStage cX0_inStage 4 (some .int) 2 [rf E (b + 7), .int a0] (Wd E x m g o) (Wd E x m g o) (some (.int r)) := by
  unfold f_X0_inStage at hf
  refine m_in (by decide) (Nat.le_of_ble_eq_true rfl) ?_
  intro p e s mi args below meth c H ls hx hb hr hlk hml hown hB hK hW hS hl
  have hl : lv_has ls 4 [(0, rf E (b + 7)), (1, .int a0)] := hl
  have J4 : ∀ (n4 : Nat), ∀ (l1_4 : Int32) (l2_4 : Int32) (l3_4 : Int32) (H : Heap) (locs : List Loc) (ls : Array Slot), f_X0_inStage_4 b x n4 l1_4 l2_4 l3_4 = some r → Wd E x m g o H → va_S (Ah E) s.heap H locs → lv_has ls 4 [(0, rf E (b + 7)), (1, .int l1_4), (2, .int l2_4), (3, .int l3_4)] → W p l e (rmH 2) s mi args below meth c H locs 0 0 (EQ E below args s (Wd E x m g o) (some (.int r))) (F0 mi 4 ls []) := by
    intro n4
    induction n4 with
    | zero => intro l1_4 l2_4 l3_4 H locs ls hf; exact absurd hf (fun z => nomatch (show (none : Option (Int32)) = some _ from z))
    | succ n4 ih4 =>
      intro l1_4 l2_4 l3_4 H locs ls hf hW hS hl
      rw [f_X0_inStage_4.eq_2] at hf
      have J24 : ∀ (l1_24 : Int32) (l2_24 : Int32) (l3_24 : Int32) (H : Heap) (locs : List Loc) (ls : Array Slot), f_X0_inStage_24 b x (f_X0_inStage_4 b x n4) l1_24 l2_24 l3_24 = some r → Wd E x m g o H → va_S (Ah E) s.heap H locs → lv_has ls 4 [(0, rf E (b + 7)), (1, .int l1_24), (2, .int l2_24), (3, .int l3_24)] → W p l e (rmH 2) s mi args below meth c H locs 0 0 (EQ E below args s (Wd E x m g o) (some (.int r))) (F0 mi 24 ls []) := by
        intro l1_24 l2_24 l3_24 H locs ls hf hW hS hl
        unfold f_X0_inStage_24 at hf
        obtain ⟨v24, e24, hf⟩ := ob hf
        refine lv_iinc (v := v24) (lv' := [(3, .int v24), (0, rf E (b + 7)), (1, .int l1_24), (2, .int l2_24)]) hx hb dX0_inStage_24 hl (k := 3) rfl (by rw [e24]; rfl) (by decide) rfl (fun ls hl => ?_)
        refine lv_goto (tgt := 4) hx hb dX0_inStage_27 (by decide) ?_
        exact ih4 l1_24 l2_24 v24 _ _ _ hf hW hS (lv_sub hl [1, 2, 3, 0] rfl)
      refine lv_iload_n hx hb dX0_inStage_4 rfl (lv_at hl 3 rfl) ?_
      refine lv_aload_n hx hb dX0_inStage_5 rfl (lv_at hl 0 rfl) ?_
      refine gf_X0_39 hx hb hB hK hown hW hB_b dX0_inStage_6 ?_
      refine lv_icmp_ge (tgt := 30) hx hb dX0_inStage_9 (by decide) (fun c9 => ?_) (fun c9 => ?_)
      · rw [if_pos c9] at hf
        refine lv_iload_n hx hb dX0_inStage_30 rfl (lv_at hl 2 rfl) ?_
        cases hf
        exact e_i hx hb hr hlk hW hS dX0_inStage_31
      · rw [if_neg c9] at hf
        refine lv_aload_n hx hb dX0_inStage_12 rfl (lv_at hl 0 rfl) ?_
        refine lv_iload_n hx hb dX0_inStage_13 rfl (lv_at hl 3 rfl) ?_
        obtain ⟨v14, e14, hf⟩ := ob2 hf
        refine c_V (As := [.int l3_4]) (st1 := [.int v14]) (rest := []) (p_X0_stageOf l E hB_b x m g o e14) (kc_X0_51 hB ⟨Nat.le_of_ble_eq_true rfl, Nat.le_of_ble_eq_true rfl⟩) (Wd.rec hK hW (hB_b.l8 (j := 7) (by decide)) (cB_7 hB_b) (ci := 0) rfl) hx hb hml hown hB hK hW hS ⟨Nat.le_refl 0, Nat.le_refl 0⟩ rfl hl.1 rfl (Nat.le_of_ble_eq_true rfl) rfl dX0_inStage_14 (fun H locs hW hS => ?_)
        refine lv_iload_n hx hb dX0_inStage_17 rfl (lv_at hl 1 rfl) ?_
        refine lv_icmp_ne (tgt := 24) hx hb dX0_inStage_18 (by decide) (fun c18 => ?_) (fun c18 => ?_)
        · rw [if_neg c18] at hf
          exact J24 l1_4 l2_4 l3_4 _ _ _ hf hW hS (lv_sub hl [0, 1, 2, 3] rfl)
        · rw [if_pos c18] at hf
          obtain ⟨v21, e21, hf⟩ := ob hf
          refine lv_iinc (v := v21) (lv' := [(2, .int v21), (0, rf E (b + 7)), (1, .int l1_4), (3, .int l3_4)]) hx hb dX0_inStage_21 hl (k := 2) rfl (by rw [e21]; rfl) (by decide) rfl (fun ls hl => ?_)
          exact J24 l1_4 v21 l3_4 _ _ _ hf hW hS (lv_sub hl [1, 2, 0, 3] rfl)
  refine lv_iconst (v := 0) hx hb dX0_inStage_0 (by decide) ?_
  refine lv_istore_n (lv' := [(2, .int 0), (0, rf E (b + 7)), (1, .int a0)]) hx hb dX0_inStage_1 rfl hl (by decide) rfl (fun ls hl => ?_)
  refine lv_iconst (v := 0) hx hb dX0_inStage_2 (by decide) ?_
  refine lv_istore_n (lv' := [(3, .int 0), (2, .int 0), (0, rf E (b + 7)), (1, .int a0)]) hx hb dX0_inStage_3 rfl hl (by decide) rfl (fun ls hl => ?_)
  exact J4 4096 a0 0 0 _ _ _ hf hW hS (lv_sub hl [2, 3, 1, 0] rfl)
def f_X0_add (b : Nat) (x : XS) (a0 : Int32) (a1 : Int32) (a2 : Int32) : Option (Int32 × XS) :=
    if ((x (b + 7) 0) < 24 : Prop) then
      ((some ((x (b + 7) 0))).bind fun v15 =>
      (aset x (b + 8) 24 v15 a0).bind fun x24 =>
      (aset x24 (b + 9) 24 v15 a1).bind fun x32 =>
      (aset x32 (b + 10) 24 v15 a2).bind fun x40 =>
      (aset x40 (b + 11) 24 v15 0).bind fun x48 =>
      (aset x48 (b + 12) 24 v15 (-1)).bind fun x56 =>
      (aset x56 (b + 13) 24 v15 0).bind fun x64 =>
      (aset x64 (b + 14) 24 v15 (-1)).bind fun x72 =>
      (aset x72 (b + 15) 24 v15 (-1)).bind fun x80 =>
      (aset x80 (b + 16) 24 v15 (-1)).bind fun x88 =>
      (some (ux x88 (b + 7) 0 (v15 + 1))).bind fun x94 =>
      some (v15, x94))
    else
      some ((-1), x)
set_option maxRecDepth 100000 in
set_option maxHeartbeats 4000000 in
theorem p_X0_add (l : Launch) (E : TE) {b : Nat} (hB_b : IsB b) (x m : XS) (g o : Int64) {a0 : Int32} {a1 : Int32} {a2 : Int32} {r : Int32} {xr : XS} (hf : f_X0_add b x a0 a1 a2 = some (r, xr)) : MG l E yX0_add cX0_add 5 (some .int) 0 [rf E (b + 7), .int a0, .int a1, .int a2] (Wd E x m g o) (Wd E xr m g o) (some (.int r)) := by
  unfold f_X0_add at hf
  refine m_in (by decide) (Nat.le_of_ble_eq_true rfl) ?_
  intro p e s mi args below meth c H ls hx hb hr hlk hml hown hB hK hW hS hl
  have hl : lv_has ls 5 [(0, rf E (b + 7)), (1, .int a0), (2, .int a1), (3, .int a2)] := hl
  refine lv_aload_n hx hb dX0_add_0 rfl (lv_at hl 0 rfl) ?_
  refine gf_X0_39 hx hb hB hK hown hW hB_b dX0_add_1 ?_
  refine lv_bipush (v := 24) hx hb dX0_add_4 (by decide) ?_
  refine lv_icmp_lt (tgt := 11) hx hb dX0_add_6 (by decide) (fun c6 => ?_) (fun c6 => ?_)
  · rw [if_pos c6] at hf
    refine lv_aload_n hx hb dX0_add_11 rfl (lv_at hl 0 rfl) ?_
    refine gf_X0_39 hx hb hB hK hown hW hB_b dX0_add_12 ?_
    obtain ⟨v15, e15, hf⟩ := ob hf
    refine lv_nm e15 ?_
    refine lv_istore (lv' := [(4, .int v15), (0, rf E (b + 7)), (1, .int a0), (2, .int a1), (3, .int a2)]) hx hb dX0_add_15 hl (by decide) rfl (fun ls hl => ?_)
    refine lv_aload_n hx hb dX0_add_17 rfl (lv_at hl 1 rfl) ?_
    refine gf_X0_9 hx hb hB hK hown hW hB_b dX0_add_18 ?_
    refine lv_iload hx hb dX0_add_21 (lv_at hl 0 rfl) ?_
    refine lv_iload_n hx hb dX0_add_23 rfl (lv_at hl 2 rfl) ?_
    obtain ⟨x24, e24, hf⟩ := ob2 hf
    refine r_iastX hx hb hK hW hS (hB_b.lt (by decide)) (fun _ => cB_8 hB_b) e24 dX0_add_24 (fun H locs hW hS => ?_)
    refine lv_aload_n hx hb dX0_add_25 rfl (lv_at hl 1 rfl) ?_
    refine gf_X0_15 hx hb hB hK hown hW hB_b dX0_add_26 ?_
    refine lv_iload hx hb dX0_add_29 (lv_at hl 0 rfl) ?_
    refine lv_iload_n hx hb dX0_add_31 rfl (lv_at hl 3 rfl) ?_
    obtain ⟨x32, e32, hf⟩ := ob2 hf
    refine r_iastX hx hb hK hW hS (hB_b.lt (by decide)) (fun _ => cB_9 hB_b) e32 dX0_add_32 (fun H locs hW hS => ?_)
    refine lv_aload_n hx hb dX0_add_33 rfl (lv_at hl 1 rfl) ?_
    refine gf_X0_18 hx hb hB hK hown hW hB_b dX0_add_34 ?_
    refine lv_iload hx hb dX0_add_37 (lv_at hl 0 rfl) ?_
    refine lv_iload_n hx hb dX0_add_39 rfl (lv_at hl 4 rfl) ?_
    obtain ⟨x40, e40, hf⟩ := ob2 hf
    refine r_iastX hx hb hK hW hS (hB_b.lt (by decide)) (fun _ => cB_10 hB_b) e40 dX0_add_40 (fun H locs hW hS => ?_)
    refine lv_aload_n hx hb dX0_add_41 rfl (lv_at hl 1 rfl) ?_
    refine gf_X0_21 hx hb hB hK hown hW hB_b dX0_add_42 ?_
    refine lv_iload hx hb dX0_add_45 (lv_at hl 0 rfl) ?_
    refine lv_iconst (v := 0) hx hb dX0_add_47 (by decide) ?_
    obtain ⟨x48, e48, hf⟩ := ob2 hf
    refine r_iastX hx hb hK hW hS (hB_b.lt (by decide)) (fun _ => cB_11 hB_b) e48 dX0_add_48 (fun H locs hW hS => ?_)
    refine lv_aload_n hx hb dX0_add_49 rfl (lv_at hl 1 rfl) ?_
    refine gf_X0_24 hx hb hB hK hown hW hB_b dX0_add_50 ?_
    refine lv_iload hx hb dX0_add_53 (lv_at hl 0 rfl) ?_
    refine lv_iconst (v := (-1)) hx hb dX0_add_55 (by decide) ?_
    obtain ⟨x56, e56, hf⟩ := ob2 hf
    refine r_iastX hx hb hK hW hS (hB_b.lt (by decide)) (fun _ => cB_12 hB_b) e56 dX0_add_56 (fun H locs hW hS => ?_)
    refine lv_aload_n hx hb dX0_add_57 rfl (lv_at hl 1 rfl) ?_
    refine gf_X0_27 hx hb hB hK hown hW hB_b dX0_add_58 ?_
    refine lv_iload hx hb dX0_add_61 (lv_at hl 0 rfl) ?_
    refine lv_iconst (v := 0) hx hb dX0_add_63 (by decide) ?_
    obtain ⟨x64, e64, hf⟩ := ob2 hf
    refine r_iastX hx hb hK hW hS (hB_b.lt (by decide)) (fun _ => cB_13 hB_b) e64 dX0_add_64 (fun H locs hW hS => ?_)
    refine lv_aload_n hx hb dX0_add_65 rfl (lv_at hl 1 rfl) ?_
    refine gf_X0_30 hx hb hB hK hown hW hB_b dX0_add_66 ?_
    refine lv_iload hx hb dX0_add_69 (lv_at hl 0 rfl) ?_
    refine lv_iconst (v := (-1)) hx hb dX0_add_71 (by decide) ?_
    obtain ⟨x72, e72, hf⟩ := ob2 hf
    refine r_iastX hx hb hK hW hS (hB_b.lt (by decide)) (fun _ => cB_14 hB_b) e72 dX0_add_72 (fun H locs hW hS => ?_)
    refine lv_aload_n hx hb dX0_add_73 rfl (lv_at hl 1 rfl) ?_
    refine gf_X0_33 hx hb hB hK hown hW hB_b dX0_add_74 ?_
    refine lv_iload hx hb dX0_add_77 (lv_at hl 0 rfl) ?_
    refine lv_iconst (v := (-1)) hx hb dX0_add_79 (by decide) ?_
    obtain ⟨x80, e80, hf⟩ := ob2 hf
    refine r_iastX hx hb hK hW hS (hB_b.lt (by decide)) (fun _ => cB_15 hB_b) e80 dX0_add_80 (fun H locs hW hS => ?_)
    refine lv_aload_n hx hb dX0_add_81 rfl (lv_at hl 1 rfl) ?_
    refine gf_X0_36 hx hb hB hK hown hW hB_b dX0_add_82 ?_
    refine lv_iload hx hb dX0_add_85 (lv_at hl 0 rfl) ?_
    refine lv_iconst (v := (-1)) hx hb dX0_add_87 (by decide) ?_
    obtain ⟨x88, e88, hf⟩ := ob2 hf
    refine r_iastX hx hb hK hW hS (hB_b.lt (by decide)) (fun _ => cB_16 hB_b) e88 dX0_add_88 (fun H locs hW hS => ?_)
    refine lv_aload_n hx hb dX0_add_89 rfl (lv_at hl 1 rfl) ?_
    refine lv_iload hx hb dX0_add_90 (lv_at hl 0 rfl) ?_
    refine lv_iconst (v := 1) hx hb dX0_add_92 (by decide) ?_
    refine lv_iadd hx hb dX0_add_93 ?_
    obtain ⟨x94, e94, hf⟩ := ob hf
    refine pf_X0_39 hx hb hB hK hown hW hS hB_b e94 dX0_add_94 (fun H locs hW hS => ?_)
    refine lv_iload hx hb dX0_add_97 (lv_at hl 0 rfl) ?_
    cases hf
    exact e_i hx hb hr hlk hW hS dX0_add_99
  · rw [if_neg c6] at hf
    refine lv_iconst (v := (-1)) hx hb dX0_add_9 (by decide) ?_
    cases hf
    exact e_i hx hb hr hlk hW hS dX0_add_10
end
