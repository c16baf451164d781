section
/-! ===== BEGIN words of one list among another's, by their places ===== -/
theorem goodIn_r {big : List Cond} (ws : List Cond) (ps : List Nat) (hp : ws = ps.filterMap (fun i => big[i]?)) (h : ws.all goodWord = true) : GoodIn big ws := by
  intro w hw
  have h1 := List.all_eq_true.mp h w hw
  rw [hp] at hw
  obtain ⟨i, -, hi⟩ := List.mem_filterMap.mp hw
  have hm : w ∈ big := by first | exact List.mem_of_getElem? hi | exact List.getElem?_mem hi
  exact ⟨hm, good_of_word h1⟩
theorem goodIn_app {big a b : List Cond} (ha : GoodIn big a) (hb : GoodIn big b) : GoodIn big (a ++ b) := fun w h => (List.mem_append.mp h).elim (ha w) (hb w)
theorem goodIn_ca {big a b : List Cond} {c : Cond} (ha : GoodIn big (c :: a)) (hb : GoodIn big b) : GoodIn big (c :: (a ++ b)) := fun w h => (List.mem_cons.mp h).elim (fun e => ha w (List.mem_cons.mpr (Or.inl e))) (fun h => (List.mem_append.mp h).elim (fun h => ha w (List.mem_cons.mpr (Or.inr h))) (hb w))
theorem goodIn_sub {big ws : List Cond} (hm : ∀ w ∈ ws, w ∈ big) (h : ws.all goodWord = true) : GoodIn big ws := fun w hw => ⟨hm w hw, good_of_word (List.all_eq_true.mp h w hw)⟩
/-! ===== END ===== -/

/-! ===== BEGIN exceptions that leave a method, and their catching by the caller (launches without stack traces) ===== -/
section VXA
/-! The laws vx_back, vx_callV, vx_callS, vx_callSW, vx_throw0, vx_throwS follow proofs of the library, with one case more: JvmDerived/Free/Laws.lean (Back.of_free), Shelf42/LK1.lean (callV, callS), Shelf/KitTraced.lean (throwNew0V, throwNewS). -/
/-- where a method has thrown q: the class by its name, the cell, what was written, the world -/
def vx_T (XC : String → State → State → Prop) (st : State) (q : Addr) (t : State) (mc ms : Nat) (free : Addr → Prop) : Prop :=
  ∃ (E : String) (ce : Cell) (L : List Loc), XC E st t ∧ t.heap[q]? = some ce ∧ ce.vm = .none ∧ st.vm.findClass E = some ce.cls ∧ st.WarmedH t.vm ∧ st.sameButNew ({ t with vm := st.vm } : State) L mc ms ∧ ∀ z ∈ L, free z.base
def vx_Q (Qc : Array Value → State → Outcome → State → Prop) (XC : String → State → State → Prop) (mc ms : Nat) (free : Addr → Prop) : Array Value → State → Outcome → State → Prop := fun a st o t =>
  (Qc a st o t ∧ ∃ L, FrameEnd st o t L mc ms ∧ ∀ q ∈ L, free q.base) ∨ ∃ q, o = .threw q ∧ vx_T XC st q t mc ms free
/-- a callee that returns or throws -/
def vx_Met (l : Launch) (y : MethodName) (ws : List Cond) (rm : Room) (Pc : Array Value → State → Prop) (Qc : Array Value → State → Outcome → State → Prop) (XC : String → State → State → Prop) (mc ms : Nat) (free : Addr → Prop) : Prop :=
  MetFree l y (headSpec ws rm) Pc (fun _ _ _ _ _ => True) (vx_Q Qc XC mc ms free)
def vx_Post (XC : String → State → State → Prop) (mc ms : Nat) (free : Addr → Prop) : Pt → Array Value → Addr → Pt → Prop := fun A a q B =>
  ∃ (g : JFrame) (mk : MethodId) (t : State) (L : List Loc) (E : String) (ce : Cell), B.U.heap = t.heap ∧ B.U.vm = t.vm ∧ XC E (A.U.calling g mk a) t ∧ t.heap[q]? = some ce ∧ ce.vm = .none ∧ A.U.vm.findClass E = some ce.cls ∧ B.locs = A.locs ++ L ∧ (∀ z ∈ L, free z.base) ∧ B.cells = A.cells + mc ∧ B.slots = A.slots + ms
def vx_Back (l : Launch) (R : Room) (p : Program) (e : Env) (below : List Frame) (s : State) (sargs : Array Value) (y : MethodName) (len W9 : Nat)
    (Pre : Pt → Array Value → Prop) (Post : Pt → Array Value → Option Value → Pt → Prop) (PostX : Pt → Array Value → Addr → Pt → Prop) : Prop :=
  ∀ (m : MethodId) (meth : Method) (c : Code) (A : Pt) (g : JFrame) (ig : Instr) (mk : MethodId) (a : Array Value),
    Stand p l e R s m sargs below meth c A.U A.locs A.cells A.slots → g.method = m → g.locals.size = c.maxLocals → decode c.code g.pc = .ok (ig, len) →
    2 * g.monitorRoom + (g.stack.map fun v => v.category).sum ≤ W9 → A.U.methodNamed? y = some mk → Pre A a →
    (∃ (v : Option Value) (B : Pt), Stand p l e R s m sargs below meth c B.U B.locs B.cells B.slots ∧ Post A a v B ∧
      Steps p.tables e below (doInvoke e (A.U.setTop g) [] mk a).1 (B.U.setTop { g with pc := g.pc + len, stack := v.toList ++ g.stack })) ∨
    (∃ (q : Addr) (B : Pt), Stand p l e R s m sargs below meth c B.U B.locs B.cells B.slots ∧ PostX A a q B ∧
      Steps p.tables e below (doInvoke e (A.U.setTop g) [] mk a).1 ((B.U.setTop g).pushFrame (.throwing q)))
section Payer
variable {l : Launch} {R : Room} {p : Program} {e : Env} {below : List Frame} {s : State} {sargs : Array Value} {y : MethodName} {len W9 : Nat}
theorem vx_back {ws : List Cond} {rm : Room} {Pc : Array Value → State → Prop} {Qc : Array Value → State → Outcome → State → Prop} {XC : String → State → State → Prop} {mc ms : Nat} {free : Addr → Prop} {bytes : ByteArray} {maxL : Nat} {ret : Option FieldType}
    (hM : vx_Met l y ws rm Pc Qc XC mc ms free) (hblind : FrameBlind Pc) (hrc : rm.cells = mc) (hrs : rm.slots = ms)
    (hframes : rm.frames + 1 ≤ R.frames) (hlocals : W9 + (maxL + 11) + rm.locals ≤ R.locals)
    (hws : ∀ w ∈ ws, ∀ a' U, s.WarmedH U.vm → w.before a' U = true) (hcode : Cond.code y bytes maxL ret ∈ ws) (hinit : ∀ a' U, s.WarmedH U.vm → (Cond.initialized y.cls).before a' U = true) :
    vx_Back l R p e below s sargs y len W9 (PreOf R mc ms Pc) (PostOf Qc mc ms free) (vx_Post XC mc ms free) := by
  intro m meth c A g ig mk a X hg hsize hdg hW hn hp
  have h1 : (headSpec ws rm).pre.before a A.U = true := atoms_intro fun w hw => hws w hw _ _ X.warmed
  have h2 : (Cond.code y bytes maxL ret).before a A.U = true := hws _ hcode _ _ X.warmed
  have h3 : (Cond.initialized y.cls).before a A.U = true := hinit _ _ X.warmed
  have h4 : A.cells + (headSpec ws rm).room.cells ≤ R.cells := by rw [show (headSpec ws rm).room.cells = mc from hrc]; exact hp.1
  have h5 : A.slots + (headSpec ws rm).room.slots ≤ R.slots := by rw [show (headSpec ws rm).room.slots = ms from hrs]; exact hp.2.1
  have hPc : Pc a (A.U.calling g mk a) := hblind _ _ _ _ hp.2.2
  obtain ⟨U, Ls, c0, s0⟩ := A
  dsimp only [Pt.U, Pt.locs, Pt.cells, Pt.slots] at h1 h2 h3 h4 h5 X hn hPc ⊢
  obtain ⟨methY, cY, hmY, hcY, -, hlY, -, -, -, -⟩ := Cond.code_spec hn h2
  obtain ⟨kY, hkY, -⟩ := className_of_methodNamed hn
  have hinitY : kY.init = .initialized := Cond.initialized_spec (findClass_of_methodNamed hn) hkY h3
  have h : At U g.method c below := by rw [hg]; exact X.here
  have hlocals9 : W9 + (maxL + 11) + (headSpec ws rm).room.locals ≤ R.locals := hlocals
  have happ : (headSpec ws rm).appliesLoose y e.platform (U.calling g mk a) = true :=
    Spec.appliesLoose_calling (g := g) h hdg hn hkY hinitY
      (X.room_calling (g := g) (R' := (headSpec ws rm).room) hsize hmY hcY hframes (by rw [hlY]; omega) h4 h5) h1
  obtain ⟨mid, hmid⟩ := h.above
  have hfr : (U.setTop g).frames = (.java g :: mid) ++ below := by rw [State.frames_setTop' g h.top, hmid]; rfl
  obtain ⟨o, s₂, hsteps, -, hend, hq⟩ := Steps.callFree hM p X.admits X.cas X.clock (acts := []) hfr happ hPc trivial
  have hq' : vx_Q Qc XC mc ms free a (U.calling g mk a) o s₂ := hq
  rw [State.frames_setTop' g h.top] at hend
  obtain ⟨g₀, hg0⟩ := Option.isSome_iff_exists.mp h.top
  obtain ⟨r, hr⟩ := State.topJava?_eq_some.mp hg0
  have hr' : (({ U with heap := s₂.heap, slotsUsed := s₂.slotsUsed } : State).setVm s₂.vm).frames = .java g₀ :: r := hr
  rcases hq' with ⟨hqc, L, hfe, hL⟩ | ⟨q, rfl, E, ce, L, hx, hce, hcv, hcl, hW₂, hsm, hL⟩
  · obtain ⟨⟨v, rfl⟩, hW₂, e2, q2, q3, q4, q5, q6⟩ := id hfe
    have e3 : s₂ = ({ (U.calling g mk a).setFrames s₂.frames with heap := s₂.heap, slotsUsed := s₂.slotsUsed } : State).setVm s₂.vm := by
      have : s₂ = ({ s₂ with vm := (U.calling g mk a).vm } : State).setVm s₂.vm := rfl
      rw [e2] at this
      exact this
    obtain ⟨c₂, i₂, len₂, hc₂, hd₂, hf₂⟩ := hend
    have hW' : U.WarmedH s₂.vm := hW₂
    have hcc : c₂ = c := by
      have h1 : s₂.code? g.method = U.code? g.method := by
        rw [State.code?_eq, State.code?_eq, hW'.alike.method?]
      exact Option.some.inj (hc₂.symm.trans (h1.trans h.code))
    subst hcc
    have hlen : len₂ = len := by rw [hdg] at hd₂; cases hd₂; rfl
    subst hlen
    have hs₂ : s₂ = (({ U with heap := s₂.heap, slotsUsed := s₂.slotsUsed } : State).setVm s₂.vm).setTop { g with pc := g.pc + len₂, stack := v.toList ++ g.stack } := by
      refine e3.trans ?_
      rw [hf₂, State.calling_eq h.top, State.setFrames_setFrames, State.setTop_of_frames _ hr', hr]
      rfl
    have hsame : U.sameButNew ({ U with heap := s₂.heap, slotsUsed := s₂.slotsUsed } : State) L mc ms := by
      refine ⟨?_, q2, q3, q4, q5, q6⟩
      obtain ⟨t, ht, -⟩ := State.frames_cons hr
      show ({ U with heap := s₂.heap, slotsUsed := s₂.slotsUsed } : State) = { U.setFrames U.frames with heap := s₂.heap, slotsUsed := s₂.slotsUsed }
      rw [State.setFrames_self ht]
    subst hg
    refine Or.inl ⟨v, ⟨(({ U with heap := s₂.heap, slotsUsed := s₂.slotsUsed } : State).setVm s₂.vm), Ls ++ L, c0 + mc, s0 + ms⟩,
      ⟨X.admits, X.cas, X.clock, X.frames, X.room, X.hears, X.method, X.code, (X.here.setHeapUsed s₂.heap s₂.slotsUsed).setVm hW'.alike, X.tail, State.WarmedH.trans X.warmed hW', X.limits, X.bytes, X.same.trans (hsame.setVm s.vm)⟩,
      ⟨g, mk, s₂, L, rfl, rfl, hqc, rfl, hL, rfl, rfl⟩, ?_⟩
    show Steps p.tables e below _ ((({ U with heap := s₂.heap, slotsUsed := s₂.slotsUsed } : State).setVm s₂.vm).setTop { g with pc := g.pc + len₂, stack := v.toList ++ g.stack })
    rw [← hs₂]
    exact hsteps
  · obtain ⟨e2, q2, q3, q4, q5, q6⟩ := id hsm
    have e3 : s₂ = ({ (U.calling g mk a).setFrames s₂.frames with heap := s₂.heap, slotsUsed := s₂.slotsUsed } : State).setVm s₂.vm := by
      have : s₂ = ({ s₂ with vm := (U.calling g mk a).vm } : State).setVm s₂.vm := rfl
      rw [e2] at this
      exact this
    have hf₂ : s₂.frames = .throwing q :: .java g :: U.frames.tail := hend
    have hW' : U.WarmedH s₂.vm := hW₂
    have hs₂ : s₂ = ((({ U with heap := s₂.heap, slotsUsed := s₂.slotsUsed } : State).setVm s₂.vm).setTop g).pushFrame (.throwing q) := by
      refine e3.trans ?_
      rw [hf₂, State.calling_eq h.top, State.setFrames_setFrames, State.pushFrame, State.frames_setTop _ hr', State.setTop_of_frames _ hr', State.setFrames_setFrames, hr]
      rfl
    have hsame : U.sameButNew ({ U with heap := s₂.heap, slotsUsed := s₂.slotsUsed } : State) L mc ms := by
      refine ⟨?_, q2, q3, q4, q5, q6⟩
      obtain ⟨t, ht, -⟩ := State.frames_cons hr
      show ({ U with heap := s₂.heap, slotsUsed := s₂.slotsUsed } : State) = { U.setFrames U.frames with heap := s₂.heap, slotsUsed := s₂.slotsUsed }
      rw [State.setFrames_self ht]
    subst hg
    refine Or.inr ⟨q, ⟨(({ U with heap := s₂.heap, slotsUsed := s₂.slotsUsed } : State).setVm s₂.vm), Ls ++ L, c0 + mc, s0 + ms⟩,
      ⟨X.admits, X.cas, X.clock, X.frames, X.room, X.hears, X.method, X.code, (X.here.setHeapUsed s₂.heap s₂.slotsUsed).setVm hW'.alike, X.tail, State.WarmedH.trans X.warmed hW', X.limits, X.bytes, X.same.trans (hsame.setVm s.vm)⟩,
      ⟨g, mk, s₂, L, E, ce, rfl, rfl, hx, hce, hcv, hcl, rfl, hL, rfl, rfl⟩, ?_⟩
    show Steps p.tables e below _ (((({ U with heap := s₂.heap, slotsUsed := s₂.slotsUsed } : State).setVm s₂.vm).setTop g).pushFrame (.throwing q))
    rw [← hs₂]
    exact hsteps
end Payer
section Calls
variable {p : Program} {l : Launch} {e : Env} {R : Room} {s : State} {m : MethodId} {args : Array Value} {below : List Frame} {meth : Method} {c : Code} {T : State} {locs : List Loc} {cells slots : Nat}
theorem vx_callV (X : Stand p l e R s m args below meth c T locs cells slots) (hexec : p.tables.exec = Jvm.exec) {own C : String} {index : Nat} {y : MethodName} {bytes : ByteArray} {maxL : Nat} {ret : Option FieldType}
    (hown : s.vm.findClass own = some m.cls) (hlink : (Cond.methodLink own index y).before args s = true) (hinst : (Cond.instanceMethod y).before args s = true) (hsel : (Cond.selects C y y).before args s = true)
    (hcode : (Cond.code y bytes maxL ret).before args s = true) (hy : y.cls ≠ "java/lang/invoke/MethodHandle" ∧ y.cls ≠ "java/lang/invoke/VarHandle")
    {W9 : Nat} {Pre : Pt → Array Value → Prop} {Post : Pt → Array Value → Option Value → Pt → Prop} {PostX : Pt → Array Value → Addr → Pt → Prop} (hK : vx_Back l R p e below s args y 3 W9 Pre Post PostX)
    {b : Addr} {cellB : Cell} (hcell : T.heap[b]? = some cellB) (hobj : cellB.vm.isStatics = false) (hcls : s.vm.findClass C = some cellB.cls)
    {g : JFrame} (hg : g.method = m) (hsize : g.locals.size = c.maxLocals) {argsL rest : List Value} (hlen : ∀ sig, parseMethodDescriptor y.desc = some sig → argsL.length = sig.parameters.length)
    (hstack : g.stack = argsL.reverse ++ .ref b :: rest) (hW : 2 * g.monitorRoom + (rest.map fun v => v.category).sum ≤ W9) (hdg : decode c.code g.pc = .ok (.invokevirtual index, 3))
    (hpre : ∀ vm₁, s.WarmedH vm₁ → Pre ⟨T.setVm vm₁, locs, cells, slots⟩ (Value.ref b :: argsL).toArray) :
    (∃ (v : Option Value) (vm₁ : Vm) (B : Pt), s.WarmedH vm₁ ∧ Stand p l e R s m args below meth c B.U B.locs B.cells B.slots ∧ Post ⟨T.setVm vm₁, locs, cells, slots⟩ (Value.ref b :: argsL).toArray v B ∧
      ∀ target, Steps p.tables e below (B.U.setTop { g with pc := g.pc + 3, stack := v.toList ++ rest }) target → Steps p.tables e below (T.setTop g) target) ∨
    (∃ (q : Addr) (vm₁ : Vm) (B : Pt), s.WarmedH vm₁ ∧ Stand p l e R s m args below meth c B.U B.locs B.cells B.slots ∧ PostX ⟨T.setVm vm₁, locs, cells, slots⟩ (Value.ref b :: argsL).toArray q B ∧
      Steps p.tables e below (T.setTop g) ((B.U.setTop { g with stack := rest }).pushFrame (.throwing q))) := by
  obtain ⟨mk, methM, hnamed, hmethM, hstM, habM⟩ := Cond.instanceMethod_spec hinst
  obtain ⟨methM', cM, hmethM', -, -, -, -, -, -, hsigM⟩ := Cond.code_spec hnamed hcode
  cases hmethM.symm.trans hmethM'
  obtain ⟨c2, r2, m2, q1, q2, q3, q4, kP, hkP, hkPi⟩ := Cond.selects_spec hsel
  cases hcls.symm.trans q1
  cases (State.methodFound?_of_named hnamed hy).symm.trans q2
  cases hnamed.symm.trans q3
  have hselP : selectMethod e.platform s.vm cellB.cls mk = .method mk := by rw [Launch.admits_selectMethod X.admits]; exact q4
  obtain ⟨vm₁, X₁, hstep₁⟩ := X.invokevirtual hexec hown hlink hnamed hmethM hstM hkP hkPi hy (a := b) (cell := cellB) hcell
    (fun z h => by rw [h] at hobj; cases hobj) hselP hmethM habM hkP hkPi (g := g) hg (argsL := argsL) (rest := rest) (hlen _ hsigM) hstack hdg
  rcases hK m meth c ⟨T.setVm vm₁, locs, cells, slots⟩ { g with stack := rest } (.invokevirtual index) mk (Value.ref b :: argsL).toArray X₁ hg hsize hdg hW (X₁.named hnamed) (hpre vm₁ X₁.warmed) with ⟨v, B, X', hpost, hsteps⟩ | ⟨q, B, X', hpost, hsteps⟩
  · exact Or.inl ⟨v, vm₁, B, X₁.warmed, X', hpost, fun target h => hstep₁ _ fun acts => by rw [doInvoke_state]; exact hsteps.trans h⟩
  · exact Or.inr ⟨q, vm₁, B, X₁.warmed, X', hpost, hstep₁ _ fun acts => by rw [doInvoke_state]; exact hsteps⟩
theorem vx_callS (X : Stand p l e R s m args below meth c T locs cells slots) (hexec : p.tables.exec = Jvm.exec) {own : String} {index : Nat} {y : MethodName} {bytes : ByteArray} {maxL : Nat} {ret : Option FieldType}
    (hown : s.vm.findClass own = some m.cls) (hlink : (Cond.methodLink own index y).before args s = true) (hstat : (Cond.static y).before args s = true) (hinit : (Cond.initialized y.cls).before args s = true)
    (hcode : (Cond.code y bytes maxL ret).before args s = true) (hy : y.cls ≠ "java/lang/invoke/MethodHandle" ∧ y.cls ≠ "java/lang/invoke/VarHandle")
    {W9 : Nat} {Pre : Pt → Array Value → Prop} {Post : Pt → Array Value → Option Value → Pt → Prop} {PostX : Pt → Array Value → Addr → Pt → Prop} (hK : vx_Back l R p e below s args y 3 W9 Pre Post PostX)
    {g : JFrame} (hg : g.method = m) (hsize : g.locals.size = c.maxLocals) {argsL rest : List Value} (hlen : ∀ sig, parseMethodDescriptor y.desc = some sig → argsL.length = sig.parameters.length)
    (hstack : g.stack = argsL.reverse ++ rest) (hW : 2 * g.monitorRoom + (rest.map fun v => v.category).sum ≤ W9) (hdg : decode c.code g.pc = .ok (.invokestatic index, 3))
    (hpre : ∀ vm₁, s.WarmedH vm₁ → Pre ⟨T.setVm vm₁, locs, cells, slots⟩ argsL.toArray) :
    (∃ (v : Option Value) (vm₁ : Vm) (B : Pt), s.WarmedH vm₁ ∧ Stand p l e R s m args below meth c B.U B.locs B.cells B.slots ∧ Post ⟨T.setVm vm₁, locs, cells, slots⟩ argsL.toArray v B ∧
      ∀ target, Steps p.tables e below (B.U.setTop { g with pc := g.pc + 3, stack := v.toList ++ rest }) target → Steps p.tables e below (T.setTop g) target) ∨
    (∃ (q : Addr) (vm₁ : Vm) (B : Pt), s.WarmedH vm₁ ∧ Stand p l e R s m args below meth c B.U B.locs B.cells B.slots ∧ PostX ⟨T.setVm vm₁, locs, cells, slots⟩ argsL.toArray q B ∧
      Steps p.tables e below (T.setTop g) ((B.U.setTop { g with stack := rest }).pushFrame (.throwing q))) := by
  obtain ⟨mk, hnamed⟩ := Cond.code_named hcode
  obtain ⟨methM, cM, hmethM, -, -, -, -, -, -, hsigM⟩ := Cond.code_spec hnamed hcode
  have hstatic : methM.isStatic = true := Cond.static_spec hnamed hmethM hstat
  obtain ⟨kP, hkP, -⟩ := className_of_methodNamed hnamed
  have hinitP : kP.init = .initialized := Cond.initialized_spec (findClass_of_methodNamed hnamed) hkP hinit
  obtain ⟨vm₁, X₁, hstep₁⟩ := X.invokestatic hexec hown hlink hnamed hmethM hstatic hkP hinitP hy (g := g) hg (argsL := argsL) (rest := rest) (hlen _ hsigM) hstack hdg
  rcases hK m meth c ⟨T.setVm vm₁, locs, cells, slots⟩ { g with stack := rest } (.invokestatic index) mk argsL.toArray X₁ hg hsize hdg hW (X₁.named hnamed) (hpre vm₁ X₁.warmed) with ⟨v, B, X', hpost, hsteps⟩ | ⟨q, B, X', hpost, hsteps⟩
  · exact Or.inl ⟨v, vm₁, B, X₁.warmed, X', hpost, fun target h => hstep₁ _ fun acts => by rw [doInvoke_state]; exact hsteps.trans h⟩
  · exact Or.inr ⟨q, vm₁, B, X₁.warmed, X', hpost, hstep₁ _ fun acts => by rw [doInvoke_state]; exact hsteps⟩
end Calls
theorem vx_cls {s : State} {T : State} {vm₁ : Vm} {E : String} {k : ClassId} (hW : s.WarmedH vm₁) (h : (T.setVm vm₁).vm.findClass E = some k) : s.vm.findClass E = some k := by
  have h1 : vm₁.findClass E = some k := h
  rw [hW.alike.findClass] at h1
  exact h1
/-- the method's frame g, with q thrown over it -/
def vx_W (p : Program) (l : Launch) (e : Env) (R : Room) (s : State) (m : MethodId) (args : Array Value) (below : List Frame) (meth : Method) (c : Code) (H : Heap) (locs : List Loc) (cells slots : Nat) (Q : State → Prop) (g : JFrame) (q : Addr) : Prop :=
  ∀ T : State, T.heap = H → Stand p l e R s m args below meth c T locs cells slots → ∃ t, Steps p.tables e below ((T.setTop g).pushFrame (.throwing q)) t ∧ Q t
def vx_Run (p : Program) (l : Launch) (e : Env) (R : Room) (s : State) (m : MethodId) (args : Array Value) (below : List Frame) (meth : Method) (c : Code) (H : Heap) (locs : List Loc) (cells slots mc ms : Nat) (g : JFrame) (rest : List Value) (Qa : State → Outcome → State → Prop) (XC : String → State → State → Prop) (free : Addr → Prop) : Prop :=
  ∀ T : State, T.heap = H → Stand p l e R s m args below meth c T locs cells slots →
    (∃ (v : Option Value) (st₀ t T' : State) (L : List Loc), st₀.heap = H ∧ Stand p l e R s m args below meth c T' (locs ++ L) (cells + mc) (slots + ms) ∧ (∀ q ∈ L, free q.base) ∧ T'.heap = t.heap ∧ T'.vm = t.vm ∧ Qa st₀ (.returned v) t ∧
      Goes p e below T g T' { g with pc := g.pc + 3, stack := v.toList ++ rest }) ∨
    (∃ (q : Addr) (st₀ t T' : State) (L : List Loc) (E : String) (ce : Cell), st₀.heap = H ∧ Stand p l e R s m args below meth c T' (locs ++ L) (cells + mc) (slots + ms) ∧ (∀ z ∈ L, free z.base) ∧ T'.heap = t.heap ∧ T'.vm = t.vm ∧ XC E st₀ t ∧ t.heap[q]? = some ce ∧ ce.vm = .none ∧ s.vm.findClass E = some ce.cls ∧
      Steps p.tables e below (T.setTop g) ((T'.setTop { g with stack := rest }).pushFrame (.throwing q)))
def vx_X {S : Type} (px : S → Prop) (B : String → S → State → Prop) (A : Nat → Prop) : String → State → State → Prop := fun E st t => ∃ u : S, px u ∧ B E u t ∧ va_F A st t
section Runs
variable {p : Program} {l : Launch} {e : Env} {R : Room} {s : State} {m : MethodId} {args : Array Value} {below : List Frame} {meth : Method} {c : Code} {H : Heap} {locs : List Loc} {cells slots : Nat}
variable {y : MethodName} {bytes cc : ByteArray} {maxL nL mc ms n index : Nat} {ret : Option FieldType} {ws : List Cond} {rm : Room} {Pc : Array Value → State → Prop} {Qc : Array Value → State → Outcome → State → Prop} {XC : String → State → State → Prop} {free : Addr → Prop} {Ts : List Cond} {own C : String} {b : Addr} {As rest : List Value} {g : JFrame}
theorem vx_callBack (cb : CallB R s args own index y bytes maxL ret ws rm mc ms n) (hM : vx_Met l y ws rm Pc Qc XC mc ms free) (hbl : FrameBlind Pc) : vx_Back l R p e below s args y 3 8 (PreOf R mc ms Pc) (PostOf Qc mc ms free) (vx_Post XC mc ms free) := by
  obtain ⟨hrc, hrs, hfr, hlo, hws, hcw, -, hini, -⟩ := cb
  exact vx_back (bytes := bytes) (maxL := maxL) (ret := ret) hM hbl hrc hrs hfr hlo hws hcw (fun a' U hW => word_at hW (Or.inl (by first | rfl | simp [Cond.onTables, Cond.keeps, Cond.steady])) hini)
theorem vx_runV (S : CallFix p m c cc nL s args Ts own) (hM : vx_Met l y ws rm Pc Qc XC mc ms free) (cw : CallW R s args own C index y bytes maxL ret ws rm mc ms n) (hp : PreV s H C b Pc As)
    (hg : g.method = m) (hn : As.length = n) (hsize : g.locals.size = nL) (hstack : g.stack = As.reverse ++ .ref b :: rest) (hW : 2 * g.monitorRoom + (rest.map fun v => v.category).sum ≤ 8) (hdg : decode cc g.pc = .ok (.invokevirtual index, 3)) (hf : cells + mc ≤ R.cells ∧ slots + ms ≤ R.slots) :
    vx_Run p l e R s m args below meth c H locs cells slots mc ms g rest (Qc (Value.ref b :: As).toArray) XC free := by
  have hK : vx_Back l R p e below s args y 3 8 (PreOf R mc ms Pc) (PostOf Qc mc ms free) (vx_Post XC mc ms free) := vx_callBack cw.1 hM hp.1
  obtain ⟨⟨-, -, -, -, -, -, hcode, -, hy, hlen, hl⟩, hin, hse⟩ := cw
  obtain ⟨hx, hb, hml, ho, -⟩ := S
  obtain ⟨-, ⟨cellB, hcB, hoB, hclB⟩, hPc⟩ := hp
  intro T hT X
  rcases vx_callV X hx (C := C) (bytes := bytes) (maxL := maxL) (ret := ret) ho hl hin hse hcode hy hK (by rw [hT]; exact hcB) hoB hclB hg (hsize.trans hml.symm) (argsL := As) (rest := rest) (fun sig h => hn.trans (hlen sig h)) hstack hW (by rw [hb]; exact hdg)
    (fun vm₁ hW₁ => ⟨hf.1, hf.2, hPc (T.setVm vm₁) hT hW₁⟩) with ⟨v, vm₁, ⟨U', l2, c2, s2⟩, hW₁, X', ⟨g', mk, t, L, e1, e2, hq, h1, hL, h2, h3⟩, st⟩ | ⟨q, vm₁, ⟨U', l2, c2, s2⟩, hW₁, X', ⟨g', mk, t, L, E, ce, e1, e2, hq, hce, hcv, hcl, h1, hL, h2, h3⟩, st⟩
  · dsimp only [Pt.U, Pt.locs, Pt.cells, Pt.slots] at X' e1 e2 h1 h2 h3 st
    subst h1; subst h2; subst h3
    exact Or.inl ⟨v, (T.setVm vm₁).calling g' mk (Value.ref b :: As).toArray, t, U', L, hT, X', hL, e1, e2, hq, st⟩
  · dsimp only [Pt.U, Pt.locs, Pt.cells, Pt.slots] at X' e1 e2 h1 h2 h3 st hcl
    subst h1; subst h2; subst h3
    exact Or.inr ⟨q, (T.setVm vm₁).calling g' mk (Value.ref b :: As).toArray, t, U', L, E, ce, hT, X', hL, e1, e2, hq, hce, hcv, vx_cls hW₁ hcl, st⟩
theorem vx_runS (S : CallFix p m c cc nL s args Ts own) (hM : vx_Met l y ws rm Pc Qc XC mc ms free) (cw : CallB R s args own index y bytes maxL ret ws rm mc ms n ∧ (Cond.static y).before args s = true) (hp : PreS s H Pc As)
    (hg : g.method = m) (hn : As.length = n) (hsize : g.locals.size = nL) (hstack : g.stack = As.reverse ++ rest) (hW : 2 * g.monitorRoom + (rest.map fun v => v.category).sum ≤ 8) (hdg : decode cc g.pc = .ok (.invokestatic index, 3)) (hf : cells + mc ≤ R.cells ∧ slots + ms ≤ R.slots) :
    vx_Run p l e R s m args below meth c H locs cells slots mc ms g rest (Qc As.toArray) XC free := by
  have hK : vx_Back l R p e below s args y 3 8 (PreOf R mc ms Pc) (PostOf Qc mc ms free) (vx_Post XC mc ms free) := vx_callBack cw.1 hM hp.1
  obtain ⟨⟨-, -, -, -, -, -, hcode, hini, hy, hlen, hl⟩, hstt⟩ := cw
  obtain ⟨hx, hb, hml, ho, -⟩ := S
  intro T hT X
  rcases vx_callS X hx (bytes := bytes) (maxL := maxL) (ret := ret) ho hl hstt hini hcode hy hK hg (hsize.trans hml.symm) (argsL := As) (rest := rest) (fun sig h => hn.trans (hlen sig h)) hstack hW (by rw [hb]; exact hdg)
    (fun vm₁ hW₁ => ⟨hf.1, hf.2, hp.2 (T.setVm vm₁) hT hW₁⟩) with ⟨v, vm₁, ⟨U', l2, c2, s2⟩, hW₁, X', ⟨g', mk, t, L, e1, e2, hq, h1, hL, h2, h3⟩, st⟩ | ⟨q, vm₁, ⟨U', l2, c2, s2⟩, hW₁, X', ⟨g', mk, t, L, E, ce, e1, e2, hq, hce, hcv, hcl, h1, hL, h2, h3⟩, st⟩
  · dsimp only [Pt.U, Pt.locs, Pt.cells, Pt.slots] at X' e1 e2 h1 h2 h3 st
    subst h1; subst h2; subst h3
    exact Or.inl ⟨v, (T.setVm vm₁).calling g' mk As.toArray, t, U', L, hT, X', hL, e1, e2, hq, st⟩
  · dsimp only [Pt.U, Pt.locs, Pt.cells, Pt.slots] at X' e1 e2 h1 h2 h3 st hcl
    subst h1; subst h2; subst h3
    exact Or.inr ⟨q, (T.setVm vm₁).calling g' mk As.toArray, t, U', L, E, ce, hT, X', hL, e1, e2, hq, hce, hcv, vx_cls hW₁ hcl, st⟩
end Runs
section Rows
variable {p : Program} {l : Launch} {e : Env} {R : Room} {s : State} {m : MethodId} {args : Array Value} {below : List Frame} {meth : Method} {c : Code} {H : Heap} {locs : List Loc} {cells slots : Nat} {Q : State → Prop}
variable {mc ms : Nat} {free : Addr → Prop} {A0 A1 : Nat → Prop} {H0 : Heap} {a : Array Value} {pc : Nat} {ls : Array Slot} {st0 rest : List Value}
theorem vx_keep {st₀ t T' : State} {L : List Loc} (h0 : st₀.heap = H) (e1 : T'.heap = t.heap) (hS : va_S A0 H0 H locs) (hA : ∀ q, q < H.size → A1 q → A0 q) (hf : ∀ q, free q → A0 q) (hL : ∀ q ∈ L, free q.base) (hF : va_F A1 st₀ t) :
    H.size ≤ T'.heap.size ∧ (∀ q : Nat, q < H.size → ¬ A1 q → T'.heap[q]? = H[q]?) ∧ va_S A0 H0 T'.heap (locs ++ L) := by
  obtain ⟨hz, hk⟩ := hF
  rw [h0] at hz hk
  exact ⟨by rw [e1]; exact hz, fun q h1 h2 => by rw [e1]; exact hk q h1 h2,
    ⟨Nat.le_trans hS.1 (by rw [e1]; exact hz), fun q h1 h2 => by rw [e1, hk q (Nat.lt_of_lt_of_le h1 hS.1) (fun z => h2 (hA q (Nat.lt_of_lt_of_le h1 hS.1) z))]; exact hS.2.1 q h1 h2, fun q hq => by
      rcases List.mem_append.mp hq with h | h
      · exact hS.2.2 q h
      · exact hf _ (hL q h)⟩⟩
theorem vx_calli {S SX : Type} {post : Int32 → S → Prop} {px : SX → Prop} {B : S → State → Prop} {BX : String → SX → State → Prop} {AX : Nat → Prop} (hr : vx_Run p l e R s m args below meth c H locs cells slots mc ms (F0 m pc ls st0) rest (va_Qi post B A1 a) (vx_X px BX AX) free) (hS : va_S A0 H0 H locs) (hA : ∀ q, q < H.size → A1 q → A0 q) (hf : ∀ q, free q → A0 q) (hAX : ∀ q, q < H.size → AX q → A0 q)
    (kx : ∀ (E : String) (ce : Cell) (q9 : Addr) (u : SX) (t : State) (H1 : Heap) (locs1 : List Loc), t.heap = H1 → s.vm.Alike t.vm → px u → BX E u t → H.size ≤ H1.size → (∀ q : Nat, q < H.size → ¬ AX q → H1[q]? = H[q]?) → va_S A0 H0 H1 locs1 → H1[q9]? = some ce → ce.vm = .none → s.vm.findClass E = some ce.cls → vx_W p l e R s m args below meth c H1 locs1 (cells + mc) (slots + ms) Q (F0 m pc ls rest) q9)
    (kk : ∀ (r : Int32) (u : S) (t : State) (H1 : Heap) (locs1 : List Loc), t.heap = H1 → s.vm.Alike t.vm → post r u → B u t → H.size ≤ H1.size → (∀ q : Nat, q < H.size → ¬ A1 q → H1[q]? = H[q]?) → va_S A0 H0 H1 locs1 → W p l e R s m args below meth c H1 locs1 (cells + mc) (slots + ms) Q (F0 m (pc + 3) ls (.int r :: rest))) : W p l e R s m args below meth c H locs cells slots Q (F0 m pc ls st0) := by
  intro T hT X
  rcases hr T hT X with ⟨v, st₀, t, T', L, h0, X', hL, e1, e2, ⟨⟨r, u, hv, hp, hb⟩, hF⟩, st⟩ | ⟨q, st₀, t, T', L, E, ce, h0, X', hL, e1, e2, ⟨u, hp, hb, hF⟩, hce, hcv, hcl, st⟩
  · cases hv
    obtain ⟨k1, k2, k3⟩ := vx_keep h0 e1 hS hA hf hL hF
    obtain ⟨t2, a1, b1⟩ := kk r u t T'.heap (locs ++ L) e1.symm (by rw [← e2]; exact X'.warmed.alike) hp hb k1 k2 k3 T' rfl X'
    exact ⟨t2, st t2 a1, b1⟩
  · obtain ⟨k1, k2, k3⟩ := vx_keep h0 e1 hS hAX hf hL hF
    obtain ⟨t2, a1, b1⟩ := kx E ce q u t T'.heap (locs ++ L) e1.symm (by rw [← e2]; exact X'.warmed.alike) hp hb k1 k2 k3 (by rw [e1]; exact hce) hcv hcl T' rfl X'
    exact ⟨t2, st.trans a1, b1⟩
theorem vx_calll {S SX : Type} {post : Int64 → S → Prop} {px : SX → Prop} {B : S → State → Prop} {BX : String → SX → State → Prop} {AX : Nat → Prop} (hr : vx_Run p l e R s m args below meth c H locs cells slots mc ms (F0 m pc ls st0) rest (va_Ql post B A1 a) (vx_X px BX AX) free) (hS : va_S A0 H0 H locs) (hA : ∀ q, q < H.size → A1 q → A0 q) (hf : ∀ q, free q → A0 q) (hAX : ∀ q, q < H.size → AX q → A0 q)
    (kx : ∀ (E : String) (ce : Cell) (q9 : Addr) (u : SX) (t : State) (H1 : Heap) (locs1 : List Loc), t.heap = H1 → s.vm.Alike t.vm → px u → BX E u t → H.size ≤ H1.size → (∀ q : Nat, q < H.size → ¬ AX q → H1[q]? = H[q]?) → va_S A0 H0 H1 locs1 → H1[q9]? = some ce → ce.vm = .none → s.vm.findClass E = some ce.cls → vx_W p l e R s m args below meth c H1 locs1 (cells + mc) (slots + ms) Q (F0 m pc ls rest) q9)
    (kk : ∀ (r : Int64) (u : S) (t : State) (H1 : Heap) (locs1 : List Loc), t.heap = H1 → s.vm.Alike t.vm → post r u → B u t → H.size ≤ H1.size → (∀ q : Nat, q < H.size → ¬ A1 q → H1[q]? = H[q]?) → va_S A0 H0 H1 locs1 → W p l e R s m args below meth c H1 locs1 (cells + mc) (slots + ms) Q (F0 m (pc + 3) ls (.long r :: rest))) : W p l e R s m args below meth c H locs cells slots Q (F0 m pc ls st0) := by
  intro T hT X
  rcases hr T hT X with ⟨v, st₀, t, T', L, h0, X', hL, e1, e2, ⟨⟨r, u, hv, hp, hb⟩, hF⟩, st⟩ | ⟨q, st₀, t, T', L, E, ce, h0, X', hL, e1, e2, ⟨u, hp, hb, hF⟩, hce, hcv, hcl, st⟩
  · cases hv
    obtain ⟨k1, k2, k3⟩ := vx_keep h0 e1 hS hA hf hL hF
    obtain ⟨t2, a1, b1⟩ := kk r u t T'.heap (locs ++ L) e1.symm (by rw [← e2]; exact X'.warmed.alike) hp hb k1 k2 k3 T' rfl X'
    exact ⟨t2, st t2 a1, b1⟩
  · obtain ⟨k1, k2, k3⟩ := vx_keep h0 e1 hS hAX hf hL hF
    obtain ⟨t2, a1, b1⟩ := kx E ce q u t T'.heap (locs ++ L) e1.symm (by rw [← e2]; exact X'.warmed.alike) hp hb k1 k2 k3 (by rw [e1]; exact hce) hcv hcl T' rfl X'
    exact ⟨t2, st.trans a1, b1⟩
theorem vx_callf {S SX : Type} {post : UInt32 → S → Prop} {px : SX → Prop} {B : S → State → Prop} {BX : String → SX → State → Prop} {AX : Nat → Prop} (hr : vx_Run p l e R s m args below meth c H locs cells slots mc ms (F0 m pc ls st0) rest (va_Qf post B A1 a) (vx_X px BX AX) free) (hS : va_S A0 H0 H locs) (hA : ∀ q, q < H.size → A1 q → A0 q) (hf : ∀ q, free q → A0 q) (hAX : ∀ q, q < H.size → AX q → A0 q)
    (kx : ∀ (E : String) (ce : Cell) (q9 : Addr) (u : SX) (t : State) (H1 : Heap) (locs1 : List Loc), t.heap = H1 → s.vm.Alike t.vm → px u → BX E u t → H.size ≤ H1.size → (∀ q : Nat, q < H.size → ¬ AX q → H1[q]? = H[q]?) → va_S A0 H0 H1 locs1 → H1[q9]? = some ce → ce.vm = .none → s.vm.findClass E = some ce.cls → vx_W p l e R s m args below meth c H1 locs1 (cells + mc) (slots + ms) Q (F0 m pc ls rest) q9)
    (kk : ∀ (r : UInt32) (u : S) (t : State) (H1 : Heap) (locs1 : List Loc), t.heap = H1 → s.vm.Alike t.vm → post r u → B u t → H.size ≤ H1.size → (∀ q : Nat, q < H.size → ¬ A1 q → H1[q]? = H[q]?) → va_S A0 H0 H1 locs1 → W p l e R s m args below meth c H1 locs1 (cells + mc) (slots + ms) Q (F0 m (pc + 3) ls (.float r :: rest))) : W p l e R s m args below meth c H locs cells slots Q (F0 m pc ls st0) := by
  intro T hT X
  rcases hr T hT X with ⟨v, st₀, t, T', L, h0, X', hL, e1, e2, ⟨⟨r, u, hv, hp, hb⟩, hF⟩, st⟩ | ⟨q, st₀, t, T', L, E, ce, h0, X', hL, e1, e2, ⟨u, hp, hb, hF⟩, hce, hcv, hcl, st⟩
  · cases hv
    obtain ⟨k1, k2, k3⟩ := vx_keep h0 e1 hS hA hf hL hF
    obtain ⟨t2, a1, b1⟩ := kk r u t T'.heap (locs ++ L) e1.symm (by rw [← e2]; exact X'.warmed.alike) hp hb k1 k2 k3 T' rfl X'
    exact ⟨t2, st t2 a1, b1⟩
  · obtain ⟨k1, k2, k3⟩ := vx_keep h0 e1 hS hAX hf hL hF
    obtain ⟨t2, a1, b1⟩ := kx E ce q u t T'.heap (locs ++ L) e1.symm (by rw [← e2]; exact X'.warmed.alike) hp hb k1 k2 k3 (by rw [e1]; exact hce) hcv hcl T' rfl X'
    exact ⟨t2, st.trans a1, b1⟩
theorem vx_calld {S SX : Type} {post : UInt64 → S → Prop} {px : SX → Prop} {B : S → State → Prop} {BX : String → SX → State → Prop} {AX : Nat → Prop} (hr : vx_Run p l e R s m args below meth c H locs cells slots mc ms (F0 m pc ls st0) rest (va_Qd post B A1 a) (vx_X px BX AX) free) (hS : va_S A0 H0 H locs) (hA : ∀ q, q < H.size → A1 q → A0 q) (hf : ∀ q, free q → A0 q) (hAX : ∀ q, q < H.size → AX q → A0 q)
    (kx : ∀ (E : String) (ce : Cell) (q9 : Addr) (u : SX) (t : State) (H1 : Heap) (locs1 : List Loc), t.heap = H1 → s.vm.Alike t.vm → px u → BX E u t → H.size ≤ H1.size → (∀ q : Nat, q < H.size → ¬ AX q → H1[q]? = H[q]?) → va_S A0 H0 H1 locs1 → H1[q9]? = some ce → ce.vm = .none → s.vm.findClass E = some ce.cls → vx_W p l e R s m args below meth c H1 locs1 (cells + mc) (slots + ms) Q (F0 m pc ls rest) q9)
    (kk : ∀ (r : UInt64) (u : S) (t : State) (H1 : Heap) (locs1 : List Loc), t.heap = H1 → s.vm.Alike t.vm → post r u → B u t → H.size ≤ H1.size → (∀ q : Nat, q < H.size → ¬ A1 q → H1[q]? = H[q]?) → va_S A0 H0 H1 locs1 → W p l e R s m args below meth c H1 locs1 (cells + mc) (slots + ms) Q (F0 m (pc + 3) ls (.double r :: rest))) : W p l e R s m args below meth c H locs cells slots Q (F0 m pc ls st0) := by
  intro T hT X
  rcases hr T hT X with ⟨v, st₀, t, T', L, h0, X', hL, e1, e2, ⟨⟨r, u, hv, hp, hb⟩, hF⟩, st⟩ | ⟨q, st₀, t, T', L, E, ce, h0, X', hL, e1, e2, ⟨u, hp, hb, hF⟩, hce, hcv, hcl, st⟩
  · cases hv
    obtain ⟨k1, k2, k3⟩ := vx_keep h0 e1 hS hA hf hL hF
    obtain ⟨t2, a1, b1⟩ := kk r u t T'.heap (locs ++ L) e1.symm (by rw [← e2]; exact X'.warmed.alike) hp hb k1 k2 k3 T' rfl X'
    exact ⟨t2, st t2 a1, b1⟩
  · obtain ⟨k1, k2, k3⟩ := vx_keep h0 e1 hS hAX hf hL hF
    obtain ⟨t2, a1, b1⟩ := kx E ce q u t T'.heap (locs ++ L) e1.symm (by rw [← e2]; exact X'.warmed.alike) hp hb k1 k2 k3 (by rw [e1]; exact hce) hcv hcl T' rfl X'
    exact ⟨t2, st.trans a1, b1⟩
theorem vx_callv {S SX : Type} {post : S → Prop} {px : SX → Prop} {B : S → State → Prop} {BX : String → SX → State → Prop} {AX : Nat → Prop} (hr : vx_Run p l e R s m args below meth c H locs cells slots mc ms (F0 m pc ls st0) rest (va_Qv post B A1 a) (vx_X px BX AX) free) (hS : va_S A0 H0 H locs) (hA : ∀ q, q < H.size → A1 q → A0 q) (hf : ∀ q, free q → A0 q) (hAX : ∀ q, q < H.size → AX q → A0 q)
    (kx : ∀ (E : String) (ce : Cell) (q9 : Addr) (u : SX) (t : State) (H1 : Heap) (locs1 : List Loc), t.heap = H1 → s.vm.Alike t.vm → px u → BX E u t → H.size ≤ H1.size → (∀ q : Nat, q < H.size → ¬ AX q → H1[q]? = H[q]?) → va_S A0 H0 H1 locs1 → H1[q9]? = some ce → ce.vm = .none → s.vm.findClass E = some ce.cls → vx_W p l e R s m args below meth c H1 locs1 (cells + mc) (slots + ms) Q (F0 m pc ls rest) q9)
    (kk : ∀ (u : S) (t : State) (H1 : Heap) (locs1 : List Loc), t.heap = H1 → s.vm.Alike t.vm → post u → B u t → H.size ≤ H1.size → (∀ q : Nat, q < H.size → ¬ A1 q → H1[q]? = H[q]?) → va_S A0 H0 H1 locs1 → W p l e R s m args below meth c H1 locs1 (cells + mc) (slots + ms) Q (F0 m (pc + 3) ls (rest))) : W p l e R s m args below meth c H locs cells slots Q (F0 m pc ls st0) := by
  intro T hT X
  rcases hr T hT X with ⟨v, st₀, t, T', L, h0, X', hL, e1, e2, ⟨⟨u, hv, hp, hb⟩, hF⟩, st⟩ | ⟨q, st₀, t, T', L, E, ce, h0, X', hL, e1, e2, ⟨u, hp, hb, hF⟩, hce, hcv, hcl, st⟩
  · cases hv
    obtain ⟨k1, k2, k3⟩ := vx_keep h0 e1 hS hA hf hL hF
    obtain ⟨t2, a1, b1⟩ := kk u t T'.heap (locs ++ L) e1.symm (by rw [← e2]; exact X'.warmed.alike) hp hb k1 k2 k3 T' rfl X'
    exact ⟨t2, st t2 a1, b1⟩
  · obtain ⟨k1, k2, k3⟩ := vx_keep h0 e1 hS hAX hf hL hF
    obtain ⟨t2, a1, b1⟩ := kx E ce q u t T'.heap (locs ++ L) e1.symm (by rw [← e2]; exact X'.warmed.alike) hp hb k1 k2 k3 (by rw [e1]; exact hce) hcv hcl T' rfl X'
    exact ⟨t2, st.trans a1, b1⟩
/-- caught by the row x of this method's table; the rows ahead don't take it -/
theorem vx_catch {own name : String} {E : String} {ce : Cell} {q : Addr} (hown : s.vm.findClass own = some m.cls) (pre : List ExceptionTableEntry) (x : ExceptionTableEntry) (suf : List ExceptionTableEntry) (hsplit : c.exceptionTable.toList = pre ++ x :: suf)
    (hpass : ∀ z ∈ pre, covers z pc = false ∨ (z.catchType ≠ 0 ∧ ∃ nm : String, (Cond.classLink own z.catchType nm).before args s = true ∧ va_Nc E nm s)) (hx : covers x pc = true) (h0 : x.catchType ≠ 0)
    (hlink : (Cond.classLink own x.catchType name).before args s = true) (hcast : (Cond.castable E name).before args s = true) (hcell : H[q]? = some ce) (hv : ce.vm = .none) (hcl : s.vm.findClass E = some ce.cls)
    (kk : W p l e R s m args below meth c H locs cells slots Q (F0 m x.handlerPc ls [.ref q])) : vx_W p l e R s m args below meth c H locs cells slots Q (F0 m pc ls rest) q := by
  intro T hT X
  have hpl : e.platform.magicAccessors = ({} : Platform).magicAccessors := by rw [X.admits.platform]
  obtain ⟨c3, c4, hc3, hc4, hasg⟩ := Cond.castable_spec hcast
  cases Option.some.inj (hc3.symm.trans hcl)
  obtain ⟨c5, hc5, hcl5⟩ := Cond.classLink_spec hown hlink e.platform hpl
  cases Option.some.inj (hc4.symm.trans hc5)
  obtain ⟨vm', X', st⟩ := X.thenCaughtThrough q (g := F0 m pc ls rest) rfl (Steps.refl _) (by rw [hT]; exact hcell) (by rw [hv]; rfl) (by obtain ⟨k9, h9, -⟩ := Vm.findClass_spec hcl; exact ⟨k9, h9⟩) pre x suf hsplit
    (fun z hz => by
      rcases hpass z hz with h | ⟨hz0, nm, hl1, hn1⟩
      · exact Or.inl h
      · obtain ⟨c6, hc6, hcl6⟩ := Cond.classLink_spec hown hl1 e.platform hpl
        obtain ⟨a8, b8, h1, h2, h3⟩ := hn1
        cases Option.some.inj (h1.symm.trans hcl)
        cases Option.some.inj (h2.symm.trans hc6)
        exact Or.inr ⟨hz0, _, hcl6, h3⟩) hx (Or.inr ⟨h0, c4, hcl5, hasg⟩)
  obtain ⟨t, a1, b1⟩ := kk (T.setVm vm') hT X'
  exact ⟨t, st.trans a1, b1⟩
end Rows
section Ends
variable {p : Program} {l : Launch} {e : Env} {R : Room} {s : State} {m : MethodId} {args : Array Value} {below : List Frame} {meth : Method} {c : Code} {H : Heap} {locs : List Loc} {cells slots : Nat} {Q : State → Prop}
variable {mc ms : Nat} {free : Addr → Prop} {A0 A1 : Nat → Prop} {H0 : Heap} {a : Array Value} {ls : Array Slot} {st0 rest : List Value}
variable {Qc : Array Value → State → Outcome → State → Prop} {XC : String → State → State → Prop}
/-- what a body that may throw owes at its end -/
def vx_MQ (below : List Frame) (Qc : Array Value → State → Outcome → State → Prop) (XC : String → State → State → Prop) (a : Array Value) (s : State) (mc ms : Nat) (free : Addr → Prop) : State → Prop := fun t =>
  ∃ o, t.status = .running ∧ Ended t below o ∧ vx_Q Qc XC mc ms free a s o t
theorem vx_ret {g : JFrame} {mc ms : Nat} (k : W p l e R s m args below meth c H locs cells slots (MQ below Qc args s mc ms free) g) : W p l e R s m args below meth c H locs cells slots (vx_MQ below Qc XC args s mc ms free) g := by
  intro T hT X
  obtain ⟨t, a1, o, b1, b2, b3, b4⟩ := k T hT X
  exact ⟨t, a1, o, b1, b2, Or.inl ⟨b3, b4⟩⟩
/-- not caught here: it goes on to the caller -/
theorem vx_widen {g : JFrame} {q : Addr} {k n : Nat} (h1 : cells ≤ k) (h2 : slots ≤ n) (kk : vx_W p l e R s m args below meth c H locs k n Q g q) : vx_W p l e R s m args below meth c H locs cells slots Q g q := fun T hT X => kk T hT (stand_widen X h1 h2)
theorem vx_out {pc : Nat} {E : String} {ce : Cell} {q : Addr} {mc ms : Nat} (hout : ∀ x ∈ c.exceptionTable.toList, covers x pc = false) (hlocks : meth.locks = false) (hcell : H[q]? = some ce) (hv : ce.vm = .none) (hcl : s.vm.findClass E = some ce.cls)
    (hx : ∀ t : State, t.heap = H → s.vm.Alike t.vm → XC E s t) (hf : ∀ z ∈ locs, free z.base) (hc : cells ≤ mc) (hs : slots ≤ ms) :
    vx_W p l e R s m args below meth c H locs cells slots (vx_MQ below Qc XC args s mc ms free) (F0 m pc ls rest) q := by
  intro T hT X
  obtain ⟨st1, hrun, hend, hW, hsm⟩ := X.leaveThrown q (g := F0 m pc ls rest) rfl rfl rfl hout hlocks
  have hcell9 : (T.setFrames (.throwing q :: below)).heap[q]? = some ce := by
    show T.heap[q]? = some ce
    rw [hT]; exact hcell
  exact ⟨_, st1, .threw q, hrun, hend, Or.inr ⟨q, rfl, E, ce, locs, hx _ hT hW.alike, hcell9, hv, hcl, hW, hsm.mono hc hs, hf⟩⟩
theorem vx_frame {U : State} {k n : Nat} (h : s.sameButNew ({ U with vm := s.vm } : State) locs k n) : s.heap.size ≤ U.heap.size ∧ ∀ q : Nat, q < s.heap.size → (∀ z ∈ locs, z.base ≠ q) → U.heap[q]? = s.heap[q]? := by
  obtain ⟨-, h2, -, -, -, h6⟩ := h
  refine ⟨h2, fun q hq hz => ?_⟩
  obtain ⟨c9, e1, e2, e3, e4⟩ := h6 q _ (Array.getElem?_eq_getElem hq)
  have hs : c9.slots = (s.heap[q]).slots := Array.ext_getElem? fun i => e4 i fun hm => hz _ hm rfl
  have h9 : c9 = s.heap[q] := by
    rw [hs] at e2
    exact e2
  have e5 : U.heap[q]? = some c9 := e1
  rw [e5, h9, Array.getElem?_eq_getElem hq]
/-- the words of a throw but the four that speak of the heap -/
def vx_no (w : Cond) : Bool := decide (w ≠ .isRef (.static Bundle.tN "UNASSIGNED_STACK" Bundle.steD)) && decide (w ≠ .isRef (.static Bundle.tN "SUPPRESSED_SENTINEL" Bundle.listD)) && decide (w ≠ .laysStatic Bundle.tN "UNASSIGNED_STACK" Bundle.steD) && decide (w ≠ .laysStatic Bundle.tN "SUPPRESSED_SENTINEL" Bundle.listD)
def vx_at0 (own : String) (ic : Nat) (X : String) (names : List String) : List Cond := (Bundle.ownAtoms0 own ic X names).filter vx_no
def vx_atS (own : String) (ic : Nat) (X : String) (names : List String) : List Cond := (Bundle.ownAtoms own ic X names).filter vx_no
/-- a word that the tables alone decide, or a good one -/
def vx_ot (w : Cond) : Bool := w.onTables || goodWord w
theorem vx_ot_at {args a' : Array Value} {s U : State} {w : Cond} (hW : s.WarmedH U.vm) (hvm : s.vm = U.vm) (hg : vx_ot w = true) (h : w.before args s = true) : w.before a' U = true := by
  simp only [vx_ot, Bool.or_eq_true] at hg
  rcases hg with hg | hg
  · exact va_tabs hg hvm h
  · exact word_at hW (good_of_word hg) h
/-- a list's words: the good ones out of the method's own list, the others by premises of their own -/
theorem vx_hat {args : Array Value} {s : State} {L B : List Cond} (h1 : ∀ w ∈ L.filter goodWord, w.before args s = true) (h2 : ∀ w ∈ L.filter (fun w => !goodWord w), w ∈ B) (h3 : ∀ w ∈ B, w.before args s = true) : ∀ w ∈ L, w.before args s = true := by
  intro w hw
  by_cases g : goodWord w = true
  · exact h1 w (List.mem_filter.mpr ⟨hw, g⟩)
  · refine h3 w (h2 w (List.mem_filter.mpr ⟨hw, ?_⟩))
    show (!goodWord w) = true
    cases hgw : goodWord w
    · rfl
    · exact absurd hgw g
theorem vx_c {args : Array Value} {s : State} {w : Cond} {B : List Cond} (h : w.before args s = true) (t : ∀ w ∈ B, w.before args s = true) : ∀ w' ∈ w :: B, w'.before args s = true := fun w' h' => (List.mem_cons.mp h').elim (fun e => by rw [e]; exact h) (t w')
theorem vx_n {args : Array Value} {s : State} : ∀ w ∈ ([] : List Cond), w.before args s = true := fun _ h => nomatch h
theorem vx_own {args : Array Value} {s : State} {L : List Cond} (h1 : ∀ w ∈ L.filter vx_no, w.before args s = true)
    (hU : (Cond.isRef (.static Bundle.tN "UNASSIGNED_STACK" Bundle.steD)).before args s = true) (hN : (Cond.isRef (.static Bundle.tN "SUPPRESSED_SENTINEL" Bundle.listD)).before args s = true)
    (lU : (Cond.laysStatic Bundle.tN "UNASSIGNED_STACK" Bundle.steD).before args s = true) (lN : (Cond.laysStatic Bundle.tN "SUPPRESSED_SENTINEL" Bundle.listD).before args s = true) : ∀ w ∈ L, w.before args s = true := by
  intro w hw
  by_cases e1 : w = .isRef (.static Bundle.tN "UNASSIGNED_STACK" Bundle.steD)
  · rw [e1]; exact hU
  · by_cases e2 : w = .isRef (.static Bundle.tN "SUPPRESSED_SENTINEL" Bundle.listD)
    · rw [e2]; exact hN
    · by_cases e3 : w = .laysStatic Bundle.tN "UNASSIGNED_STACK" Bundle.steD
      · rw [e3]; exact lU
      · by_cases e4 : w = .laysStatic Bundle.tN "SUPPRESSED_SENTINEL" Bundle.listD
        · rw [e4]; exact lN
        · exact h1 w (List.mem_filter.mpr ⟨hw, by unfold vx_no; rw [decide_eq_true e1, decide_eq_true e2, decide_eq_true e3, decide_eq_true e4]; rfl⟩)
/-- where a static field lies, its class's statics cell in H -/
def vx_L (C n d : String) (A : Nat → Prop) (U : State) (H : Heap) : Prop := ∃ (c : ClassId) (k : Class) (i : Nat) (f : Field) (a : Nat) (cell : Cell), U.vm.findClass C = some c ∧ U.fieldFound? C n d = some (c, k, i, f) ∧ f.isStatic = true ∧ k.statics = some a ∧ H[a]? = some cell ∧ cell.vm.isStatics = true ∧ cell.cls = c ∧ f.slot < cell.slots.size ∧ k.staticTypes[f.slot]? = some f.type ∧ ¬ A a
theorem vx_L.moved {C n d : String} {A : Nat → Prop} {u U : State} {H : Heap} (hvm : u.vm.Alike U.vm) (h : vx_L C n d A u H) : vx_L C n d A U H := by
  obtain ⟨c, k, i, f, a, cell, h1, h2, h3, h4, h5, h6, h7, h8, h9, h10⟩ := h
  obtain ⟨k', hi', he⟩ := State.fieldFound?_setVm hvm h2
  exact ⟨c, k', i, f, a, cell, by rw [hvm.findClass]; exact h1, hi', h3, by rw [he]; exact h4, h5, h6, h7, h8, by rw [he]; exact h9, h10⟩
theorem vx_L.kept {C n d : String} {A : Nat → Prop} {U : State} {H H1 : Heap} (h : vx_L C n d A U H) (hq : ∀ a : Nat, a < H.size → ¬ A a → H1[a]? = H[a]?) : vx_L C n d A U H1 := by
  obtain ⟨c, k, i, f, a, cell, h1, h2, h3, h4, h5, h6, h7, h8, h9, h10⟩ := h
  exact ⟨c, k, i, f, a, cell, h1, h2, h3, h4, by rw [hq a (Array.getElem?_eq_some_iff.mp h5).1 h10]; exact h5, h6, h7, h8, h9, h10⟩
theorem vx_L.narrow {C n d : String} {A B : Nat → Prop} {U : State} {H : Heap} (h : vx_L C n d A U H) (hAB : ∀ q, B q → A q) : vx_L C n d B U H := by
  obtain ⟨c, k, i, f, a, cell, h1, h2, h3, h4, h5, h6, h7, h8, h9, h10⟩ := h
  exact ⟨c, k, i, f, a, cell, h1, h2, h3, h4, h5, h6, h7, h8, h9, fun z => h10 (hAB _ z)⟩
theorem vx_L.word {C n d : String} {A : Nat → Prop} {s : State} {args : Array Value} (h : vx_L C n d A s s.heap) : (Cond.laysStatic C n d).before args s = true := by
  obtain ⟨c, k, i, f, a, cell, h1, h2, h3, h4, h5, h6, h7, h8, h9, -⟩ := h
  show (Cond.laysStatic C n d).holds args s none s [] = true
  exact Cond.laysStatic_of h1 h2 h3 h4 h5 h6 h7 h8 h9
/-- .. and what it holds: null or some reference -/
def vx_Zq (C n d : String) (A : Nat → Prop) (U : State) (H : Heap) : Prop := va_Zq C n d A U H ∧ vx_L C n d A U H
theorem vx_Zq.moved {C n d : String} {A : Nat → Prop} {u U : State} {H : Heap} (hvm : u.vm.Alike U.vm) (h : vx_Zq C n d A u H) : vx_Zq C n d A U H := ⟨va_Zq.moved hvm h.1, vx_L.moved hvm h.2⟩
theorem vx_Zq.kept {C n d : String} {A : Nat → Prop} {U : State} {H H1 : Heap} (h : vx_Zq C n d A U H) (hq : ∀ a : Nat, a < H.size → ¬ A a → H1[a]? = H[a]?) : vx_Zq C n d A U H1 := ⟨va_Zq.kept h.1 hq, vx_L.kept h.2 hq⟩
theorem vx_Zq.narrow {C n d : String} {A B : Nat → Prop} {U : State} {H : Heap} (h : vx_Zq C n d A U H) (hAB : ∀ q, B q → A q) : vx_Zq C n d B U H := ⟨va_Zq.narrow h.1 hAB, vx_L.narrow h.2 hAB⟩
theorem vx_Zqof {args : Array Value} {s : State} {C n d : String} {A : Nat → Prop} (hl : (Cond.laysStatic C n d).before args s = true) (hini : (Cond.initialized C).before args s = true) (h : (Cond.isRef (.static C n d)).before args s = true) (hA : ∀ a : Nat, a < s.heap.size → ¬ A a) : vx_Zq C n d A s s.heap := by
  refine ⟨va_Zqof hl hini h hA, ?_⟩
  obtain ⟨c, k, i, f, a, cell, h1, h2, h3, h4, h5, h6, h7, h8, h9⟩ := Cond.laysStatic_spec hl
  exact ⟨c, k, i, f, a, cell, h1, h2, h3, h4, h5, h6, h7, h8, h9, hA a (Array.getElem?_eq_some_iff.mp h5).1⟩
theorem vx_isRef {C n d : String} {v : Value} {A : Nat → Prop} {s : State} {args : Array Value} (h : va_Z C n d v A s s.heap) (hv : v.isRef = true) : (Cond.isRef (.static C n d)).before args s = true := by
  obtain ⟨cf, kf, fi, f, a, cell, h1, h2, h3, h4, h5, h6, h7, -⟩ := h
  have he : (Term.static C n d).eval args s none [] s = some v := by
    simp [Term.eval, State.fieldNamed?, h1, h2, h4, h5, h6, h7]
  simp only [Cond.before, Cond.holds, Cond.value, he]
  cases v <;> simp_all [Value.isRef]
theorem vx_isRefq {C n d : String} {A : Nat → Prop} {s : State} {args : Array Value} (h : va_Zq C n d A s s.heap) : (Cond.isRef (.static C n d)).before args s = true := by
  rcases h with h | ⟨t, h⟩
  · exact vx_isRef h rfl
  · exact vx_isRef h rfl
/-- the same frame, seen from here: as if the method were called anew in this heap -/
theorem vx_rebase {T : State} (X : Stand p l e R s m args below meth c T locs cells slots) {R' : Room} (hf : R'.frames ≤ R.frames) (hl : R'.locals ≤ R.locals) (hc : cells + R'.cells ≤ R.cells) (hs : slots + R'.slots ≤ R.slots) :
    Stand p l e R' ((T.setVm s.vm).setFrames (.invoking m args :: below)) m args below meth c T [] 0 0 := by
  have htop : (T.setVm s.vm).topJava?.isSome := X.here.top
  have hF : ((T.setVm s.vm).setFrames (.invoking m args :: below)).frames = .invoking m args :: below := State.frames_setFrames _ (State.cur_lt_of_top htop)
  obtain ⟨g₀, hg0⟩ := Option.isSome_iff_exists.mp htop
  obtain ⟨r, hr⟩ := State.topJava?_eq_some.mp hg0
  have hl9 : e.platform.stackLimits (T.setVm s.vm).me = e.platform.stackLimits s.me := X.limits
  have hb9 : (T.setVm s.vm).me.stackBytes = s.me.stackBytes := X.bytes
  refine ⟨X.admits, X.cas, X.clock, hF, ?_, X.hears, X.method, X.code, X.here, X.tail, X.warmed, ?_, ?_, ?_⟩
  · have h := X.room
    have hU : ((T.setVm s.vm).setFrames (.invoking m args :: below)).localsInUse = s.localsInUse := by
      rw [State.localsInUse_invoking hF (meth := meth) (c := c) X.method X.code, State.localsInUse_invoking X.frames X.method X.code]
    simp only [State.hasRoom, Bool.and_eq_true, decide_eq_true_eq] at h ⊢
    obtain ⟨⟨⟨⟨h1, h2, h3, h4, h5, h6⟩, h7⟩, h8⟩, h9⟩ := h
    rw [X.frames, List.length_cons] at h2 h3
    have q1 := X.heapSize
    have q2 := X.used
    simp only [hF, hU, List.length_cons, State.stackLimits_setFrames, State.stackBytes_setFrames, hl9, hb9]
    refine ⟨⟨⟨⟨by omega, by omega, by omega, by omega, by omega, h6⟩, ?_⟩, ?_⟩, X.book⟩
    · show T.heap.size + R'.cells ≤ e.platform.maxCells
      omega
    · show T.slotsUsed + R'.slots ≤ e.platform.maxSlots
      omega
  · rw [State.stackLimits_setFrames]; rfl
  · rw [State.stackBytes_setFrames]; rfl
  · refine ⟨?_, Nat.le_refl _, Nat.le_refl _, ?_, ?_, fun a c9 h9 => ⟨c9, h9, rfl, rfl, fun _ _ => rfl⟩⟩
    · obtain ⟨t, ht, -⟩ := State.frames_cons hr
      show T.setVm s.vm = { ((T.setVm s.vm).setFrames (.invoking m args :: below)).setFrames (T.setVm s.vm).frames with heap := T.heap, slotsUsed := T.slotsUsed }
      rw [State.setFrames_setFrames, State.setFrames_self ht]
      rfl
    · show T.slotsUsed = T.slotsUsed + ((T.heap.toList.drop T.heap.size).map (·.slots.size)).sum
      rw [List.drop_eq_nil_of_le (Nat.le_of_eq Array.length_toList)]
      rfl
    · show ((T.heap.toList.drop T.heap.size).map (·.slots.size)).sum ≤ 0
      rw [List.drop_eq_nil_of_le (Nat.le_of_eq Array.length_toList)]
      exact Nat.le_refl _
/-- 'throw new E()': new; dup; invokespecial; athrow -/
theorem vx_throw0 {cc : ByteArray} {pc : Nat} (hexec : p.tables.exec = Jvm.exec) (hb : c.code = cc) (hl : l.stackTraces = false) {own cls : String} {names : List String} {ik ic mc ms : Nat} {A : Nat → Prop}
    (hown : s.vm.findClass own = some m.cls) (hcls : Bundle.fit cls = true) (hnames : ∀ n ∈ names, Bundle.fit n = true)
    (hk : (Cond.classLink own ik cls).before args s = true) (hini : (Cond.initialized cls).before args s = true) (hat : ∀ w ∈ vx_at0 own ic cls names, w.before args s = true)
    (hgood : ∀ w ∈ Cond.classLink own ik cls :: Cond.initialized cls :: vx_at0 own ic cls names, vx_ot w = true)
    (hU : vx_Zq Bundle.tN "UNASSIGNED_STACK" Bundle.steD A s s.heap) (hN : vx_Zq Bundle.tN "SUPPRESSED_SENTINEL" Bundle.listD A s s.heap) (hS : va_S A s.heap H locs) (hsize : ls.size = c.maxLocals)
    (d0 : decode cc pc = .ok (.new ik, 3)) (d3 : decode cc (pc + 3) = .ok (.dup, 1)) (d4 : decode cc (pc + 4) = .ok (.invokespecial ic, 3)) (d7 : decode cc (pc + 7) = .ok (.athrow, 1))
    (hout : ∀ x ∈ c.exceptionTable.toList, covers x (pc + 7) = false)
    (hRframes : names.length + 3 < R.frames) (hRlocals : (rest.map fun v => v.category).sum + (13 * (names.length + 1) + 42) ≤ R.locals) (hRcells : cells + 1 ≤ R.cells) (hRslots : slots + 6 ≤ R.slots) (hlocks : meth.locks = false)
    (hx : ∀ t : State, s.vm.Alike t.vm → H.size ≤ t.heap.size → (∀ q : Nat, q < H.size → t.heap[q]? = H[q]?) → XC cls s t)
    (hf : ∀ z ∈ locs, free z.base) (hc : cells + 1 ≤ mc) (hs : slots + 6 ≤ ms) :
    W p l e R s m args below meth c H locs cells slots (vx_MQ below Qc XC args s mc ms free) (F0 m pc ls rest) := by
  intro T hT X
  have htr : e.platform.stackTraces = false := (show e.platform.stackTraces = l.stackTraces by rw [X.admits.platform]).trans hl
  have Y := vx_rebase X (R' := { frames := R.frames, locals := R.locals, cells := 1, slots := 6 }) (Nat.le_refl _) (Nat.le_refl _) hRcells hRslots
  obtain ⟨s', hA⟩ : ∃ z, z = (T.setVm s.vm).setFrames (.invoking m args :: below) := ⟨_, rfl⟩
  rw [← hA] at Y
  have hvm : s'.vm = s.vm := by rw [hA]; rfl
  have hhp : s'.heap = H := by rw [hA]; exact hT
  have hW0 : s.WarmedH s'.vm := by rw [hvm]; exact State.WarmedH.refl s
  have hat' : ∀ w ∈ vx_at0 own ic cls names, w.before args s' = true := fun w hw => vx_ot_at hW0 hvm.symm (hgood w (List.mem_cons_of_mem _ (List.mem_cons_of_mem _ hw))) (hat w hw)
  have hk' : (Cond.classLink own ik cls).before args s' = true := vx_ot_at hW0 hvm.symm (hgood _ List.mem_cons_self) hk
  have hini' : (Cond.initialized cls).before args s' = true := vx_ot_at hW0 hvm.symm (hgood _ (List.mem_cons_of_mem _ List.mem_cons_self)) hini
  have hU' : vx_Zq Bundle.tN "UNASSIGNED_STACK" Bundle.steD A s' s'.heap := by rw [hhp]; exact vx_Zq.moved hW0.alike (hU.kept hS.2.1)
  have hN' : vx_Zq Bundle.tN "SUPPRESSED_SENTINEL" Bundle.listD A s' s'.heap := by rw [hhp]; exact vx_Zq.moved hW0.alike (hN.kept hS.2.1)
  have h : ∀ w ∈ Bundle.ownAtoms0 own ic cls names, w.before args s' = true := vx_own hat' (vx_isRefq hU'.1) (vx_isRefq hN'.1) hU'.2.word hN'.2.word
  have hown' : s'.vm.findClass own = some m.cls := by rw [hvm]; exact hown
  have hins : (Cond.instantiable cls 6).before args s' = true := h _ (by simp [Bundle.ownAtoms0])
  obtain ⟨vm₁, cX, kX, hfX, hkX, -, -, X₁, st1⟩ := Y.newCold hexec (own := own) (C := cls) (index := ik) (n := 6) hown' hk' hins hini'
    (g := F0 m pc ls rest) rfl (by rw [hb]; exact d0) (Nat.le_refl _) (Nat.le_refl _)
  generalize hT1 : (T.setVm vm₁).pushCell { cls := cX, slots := kX.instanceTypes.map defaultValue, vm := .none } = T1 at X₁ st1
  have hcat : (Value.ref T.heap.size).category = 1 := rfl
  have hcellA : T1.heap[T.heap.size]? = some (freshCell cX kX) := by rw [← hT1]; exact State.heap_pushCell_size _ _
  have d3' : decode c.code (pc + 3) = .ok (.dup, 1) := by rw [hb]; exact d3
  obtain ⟨U, hsteps, hrun, hend, hW, hsame, ce, hce, hO⟩ := X₁.ctorThrow0 hexec htr (own := own) (cls := cls) (names := names) (ic := ic) hown' hcls hnames h (fun x hx => nomatch hx) hfX hkX hcellA (by rw [hhp, hT]; exact Nat.le_refl _)
    (g := { method := m, pc := pc + 4, locals := ls, stack := .ref T.heap.size :: .ref T.heap.size :: rest, locked := none }) rfl hsize rfl rfl (rest := rest) rfl
    (by rw [hb]; exact d4) (by rw [hb]; exact d7) hout hRframes (by simp only [List.map_cons, List.sum_cons, hcat]; omega) hlocks
  obtain ⟨f1, f2⟩ := vx_frame hsame
  rw [hhp] at f1 f2
  have hWs : s.WarmedH U.vm := State.WarmedH.trans hW0 hW
  have hcl : s.vm.findClass cls = some ce.cls := by
    have h9 := hO.cls
    rw [hvm] at h9
    exact h9
  have hall : s.sameButNew ({ U with vm := s.vm } : State) locs mc ms := by
    subst hA
    obtain ⟨e1, e2⟩ := hsame
    rw [State.setFrames_setFrames] at e1
    have h2 : (T.setVm s.vm).sameButNew ({ U with vm := s.vm } : State) [] (0 + 1) (0 + 6) := ⟨e1, e2⟩
    have h3 := X.same.trans h2
    rw [List.append_nil] at h3
    exact h3.mono hc hs
  refine ⟨U, ?_, .threw T.heap.size, hrun, hend, Or.inr ⟨T.heap.size, rfl, cls, ce, locs, hx U hWs.alike f1 (fun q hq => f2 q hq (fun z hz => nomatch hz)), hce, hO.vm, hcl, hWs, hall, hf⟩⟩
  refine st1 _ ?_
  show Steps p.tables e below (T1.setTop { method := m, pc := pc + 3, locals := ls, stack := .ref T.heap.size :: rest, locked := none }) _
  jvm_step X₁.here [X₁.here.top, hexec, d3', Value.category]
  exact hsteps
/-- 'throw new E("text")': new; dup; ldc; invokespecial; athrow -/
theorem vx_throwS {cc : ByteArray} {pc : Nat} (hexec : p.tables.exec = Jvm.exec) (hb : c.code = cc) (hl : l.stackTraces = false) {own cls text : String} {names : List String} {ik is ic mc ms sa : Nat} {A : Nat → Prop}
    (hown : s.vm.findClass own = some m.cls) (hcls : Bundle.fit cls = true) (hnames : ∀ n ∈ names, Bundle.fit n = true)
    (hk : (Cond.classLink own ik cls).before args s = true) (hini : (Cond.initialized cls).before args s = true) (hstr : vk_R own is text sa s) (hat : ∀ w ∈ vx_atS own ic cls names, w.before args s = true)
    (hgood : ∀ w ∈ Cond.classLink own ik cls :: Cond.initialized cls :: vx_atS own ic cls names, vx_ot w = true)
    (hU : vx_Zq Bundle.tN "UNASSIGNED_STACK" Bundle.steD A s s.heap) (hN : vx_Zq Bundle.tN "SUPPRESSED_SENTINEL" Bundle.listD A s s.heap) (hS : va_S A s.heap H locs) (hsize : ls.size = c.maxLocals)
    (d0 : decode cc pc = .ok (.new ik, 3)) (d3 : decode cc (pc + 3) = .ok (.dup, 1)) (d4 : decode cc (pc + 4) = .ok (.ldc is, 2)) (d6 : decode cc (pc + 6) = .ok (.invokespecial ic, 3)) (d9 : decode cc (pc + 9) = .ok (.athrow, 1))
    (hout : ∀ x ∈ c.exceptionTable.toList, covers x (pc + 9) = false)
    (hRframes : names.length + 3 < R.frames) (hRlocals : (rest.map fun v => v.category).sum + (13 * (names.length + 1) + 43) ≤ R.locals) (hRcells : cells + 1 ≤ R.cells) (hRslots : slots + 6 ≤ R.slots) (hlocks : meth.locks = false)
    (hx : ∀ t : State, s.vm.Alike t.vm → H.size ≤ t.heap.size → (∀ q : Nat, q < H.size → t.heap[q]? = H[q]?) → XC cls s t)
    (hf : ∀ z ∈ locs, free z.base) (hc : cells + 1 ≤ mc) (hs : slots + 6 ≤ ms) :
    W p l e R s m args below meth c H locs cells slots (vx_MQ below Qc XC args s mc ms free) (F0 m pc ls rest) := by
  intro T hT X
  have htr : e.platform.stackTraces = false := (show e.platform.stackTraces = l.stackTraces by rw [X.admits.platform]).trans hl
  have Y := vx_rebase X (R' := { frames := R.frames, locals := R.locals, cells := 1, slots := 6 }) (Nat.le_refl _) (Nat.le_refl _) hRcells hRslots
  obtain ⟨s', hA⟩ : ∃ z, z = (T.setVm s.vm).setFrames (.invoking m args :: below) := ⟨_, rfl⟩
  rw [← hA] at Y
  have hvm : s'.vm = s.vm := by rw [hA]; rfl
  have hhp : s'.heap = H := by rw [hA]; exact hT
  have hW0 : s.WarmedH s'.vm := by rw [hvm]; exact State.WarmedH.refl s
  have hat' : ∀ w ∈ vx_atS own ic cls names, w.before args s' = true := fun w hw => vx_ot_at hW0 hvm.symm (hgood w (List.mem_cons_of_mem _ (List.mem_cons_of_mem _ hw))) (hat w hw)
  have hk' : (Cond.classLink own ik cls).before args s' = true := vx_ot_at hW0 hvm.symm (hgood _ List.mem_cons_self) hk
  have hini' : (Cond.initialized cls).before args s' = true := vx_ot_at hW0 hvm.symm (hgood _ (List.mem_cons_of_mem _ List.mem_cons_self)) hini
  have hU' : vx_Zq Bundle.tN "UNASSIGNED_STACK" Bundle.steD A s' s'.heap := by rw [hhp]; exact vx_Zq.moved hW0.alike (hU.kept hS.2.1)
  have hN' : vx_Zq Bundle.tN "SUPPRESSED_SENTINEL" Bundle.listD A s' s'.heap := by rw [hhp]; exact vx_Zq.moved hW0.alike (hN.kept hS.2.1)
  have h : ∀ w ∈ Bundle.ownAtoms own ic cls names, w.before args s' = true := vx_own hat' (vx_isRefq hU'.1) (vx_isRefq hN'.1) hU'.2.word hN'.2.word
  have hown' : s'.vm.findClass own = some m.cls := by rw [hvm]; exact hown
  have hins : (Cond.instantiable cls 6).before args s' = true := h _ (by simp [Bundle.ownAtoms])
  obtain ⟨vm₁, cX, kX, hfX, hkX, -, -, X₁, st1⟩ := Y.newCold hexec (own := own) (C := cls) (index := ik) (n := 6) hown' hk' hins hini'
    (g := F0 m pc ls rest) rfl (by rw [hb]; exact d0) (Nat.le_refl _) (Nat.le_refl _)
  generalize hT1 : (T.setVm vm₁).pushCell { cls := cX, slots := kX.instanceTypes.map defaultValue, vm := .none } = T1 at X₁ st1
  have hcat : (Value.ref T.heap.size).category = 1 := rfl
  have hcellA : T1.heap[T.heap.size]? = some (freshCell cX kX) := by rw [← hT1]; exact State.heap_pushCell_size _ _
  have d3' : decode c.code (pc + 3) = .ok (.dup, 1) := by rw [hb]; exact d3
  have d4' : decode c.code (pc + 4) = .ok (.ldc is, 2) := by rw [hb]; exact d4
  have hstr' : vk_R own is text sa s' := vk_R.warm hW0 hstr
  obtain ⟨U, hsteps, hrun, hend, hW, hsame, ce, hce, hO⟩ := X₁.ctorThrowS hexec htr (own := own) (cls := cls) (names := names) (ic := ic) hown' hcls hnames h (fun x hx => nomatch hx) hfX hkX hcellA (by rw [hhp, hT]; exact Nat.le_refl _) (msg := .ref sa) rfl
    (g := { method := m, pc := pc + 6, locals := ls, stack := .ref sa :: .ref T.heap.size :: .ref T.heap.size :: rest, locked := none }) rfl hsize rfl rfl (rest := rest) rfl
    (by rw [hb]; exact d6) (by rw [hb]; exact d9) hout hRframes (by simp only [List.map_cons, List.sum_cons, hcat]; omega) hlocks
  obtain ⟨f1, f2⟩ := vx_frame hsame
  rw [hhp] at f1 f2
  have hWs : s.WarmedH U.vm := State.WarmedH.trans hW0 hW
  have hcl : s.vm.findClass cls = some ce.cls := by
    have h9 := hO.cls
    rw [hvm] at h9
    exact h9
  have hall : s.sameButNew ({ U with vm := s.vm } : State) locs mc ms := by
    subst hA
    obtain ⟨e1, e2⟩ := hsame
    rw [State.setFrames_setFrames] at e1
    have h2 : (T.setVm s.vm).sameButNew ({ U with vm := s.vm } : State) [] (0 + 1) (0 + 6) := ⟨e1, e2⟩
    have h3 := X.same.trans h2
    rw [List.append_nil] at h3
    exact h3.mono hc hs
  refine ⟨U, ?_, .threw T.heap.size, hrun, hend, Or.inr ⟨T.heap.size, rfl, cls, ce, locs, hx U hWs.alike f1 (fun q hq => f2 q hq (fun z hz => nomatch hz)), hce, hO.vm, hcl, hWs, hall, hf⟩⟩
  refine st1 _ ?_
  show Steps p.tables e below (T1.setTop { method := m, pc := pc + 3, locals := ls, stack := .ref T.heap.size :: rest, locked := none }) _
  jvm_step X₁.here [X₁.here.top, hexec, d3', Value.category]
  exact X₁.ldcString hexec (own := own) (text := text) (index := is) (a := sa) hown' hstr'.1 hstr'.2
    (g := { method := m, pc := pc + 4, locals := ls, stack := .ref T.heap.size :: .ref T.heap.size :: rest, locked := none }) rfl d4' _ hsteps
/-- 'throw new E("text")', the text by a wide index -/
theorem vx_throwSW {cc : ByteArray} {pc : Nat} (hexec : p.tables.exec = Jvm.exec) (hb : c.code = cc) (hl : l.stackTraces = false) {own cls text : String} {names : List String} {ik is ic mc ms sa : Nat} {A : Nat → Prop}
    (hown : s.vm.findClass own = some m.cls) (hcls : Bundle.fit cls = true) (hnames : ∀ n ∈ names, Bundle.fit n = true)
    (hk : (Cond.classLink own ik cls).before args s = true) (hini : (Cond.initialized cls).before args s = true) (hstr : vk_R own is text sa s) (hat : ∀ w ∈ vx_atS own ic cls names, w.before args s = true)
    (hgood : ∀ w ∈ Cond.classLink own ik cls :: Cond.initialized cls :: vx_atS own ic cls names, vx_ot w = true)
    (hU : vx_Zq Bundle.tN "UNASSIGNED_STACK" Bundle.steD A s s.heap) (hN : vx_Zq Bundle.tN "SUPPRESSED_SENTINEL" Bundle.listD A s s.heap) (hS : va_S A s.heap H locs) (hsize : ls.size = c.maxLocals)
    (d0 : decode cc pc = .ok (.new ik, 3)) (d3 : decode cc (pc + 3) = .ok (.dup, 1)) (d4 : decode cc (pc + 4) = .ok (.ldc_w is, 3)) (d7 : decode cc (pc + 7) = .ok (.invokespecial ic, 3)) (d10 : decode cc (pc + 10) = .ok (.athrow, 1))
    (hout : ∀ x ∈ c.exceptionTable.toList, covers x (pc + 10) = false)
    (hRframes : names.length + 3 < R.frames) (hRlocals : (rest.map fun v => v.category).sum + (13 * (names.length + 1) + 43) ≤ R.locals) (hRcells : cells + 1 ≤ R.cells) (hRslots : slots + 6 ≤ R.slots) (hlocks : meth.locks = false)
    (hx : ∀ t : State, s.vm.Alike t.vm → H.size ≤ t.heap.size → (∀ q : Nat, q < H.size → t.heap[q]? = H[q]?) → XC cls s t)
    (hf : ∀ z ∈ locs, free z.base) (hc : cells + 1 ≤ mc) (hs : slots + 6 ≤ ms) :
    W p l e R s m args below meth c H locs cells slots (vx_MQ below Qc XC args s mc ms free) (F0 m pc ls rest) := by
  intro T hT X
  have htr : e.platform.stackTraces = false := (show e.platform.stackTraces = l.stackTraces by rw [X.admits.platform]).trans hl
  have Y := vx_rebase X (R' := { frames := R.frames, locals := R.locals, cells := 1, slots := 6 }) (Nat.le_refl _) (Nat.le_refl _) hRcells hRslots
  obtain ⟨s', hA⟩ : ∃ z, z = (T.setVm s.vm).setFrames (.invoking m args :: below) := ⟨_, rfl⟩
  rw [← hA] at Y
  have hvm : s'.vm = s.vm := by rw [hA]; rfl
  have hhp : s'.heap = H := by rw [hA]; exact hT
  have hW0 : s.WarmedH s'.vm := by rw [hvm]; exact State.WarmedH.refl s
  have hat' : ∀ w ∈ vx_atS own ic cls names, w.before args s' = true := fun w hw => vx_ot_at hW0 hvm.symm (hgood w (List.mem_cons_of_mem _ (List.mem_cons_of_mem _ hw))) (hat w hw)
  have hk' : (Cond.classLink own ik cls).before args s' = true := vx_ot_at hW0 hvm.symm (hgood _ List.mem_cons_self) hk
  have hini' : (Cond.initialized cls).before args s' = true := vx_ot_at hW0 hvm.symm (hgood _ (List.mem_cons_of_mem _ List.mem_cons_self)) hini
  have hU' : vx_Zq Bundle.tN "UNASSIGNED_STACK" Bundle.steD A s' s'.heap := by rw [hhp]; exact vx_Zq.moved hW0.alike (hU.kept hS.2.1)
  have hN' : vx_Zq Bundle.tN "SUPPRESSED_SENTINEL" Bundle.listD A s' s'.heap := by rw [hhp]; exact vx_Zq.moved hW0.alike (hN.kept hS.2.1)
  have h : ∀ w ∈ Bundle.ownAtoms own ic cls names, w.before args s' = true := vx_own hat' (vx_isRefq hU'.1) (vx_isRefq hN'.1) hU'.2.word hN'.2.word
  have hown' : s'.vm.findClass own = some m.cls := by rw [hvm]; exact hown
  have hins : (Cond.instantiable cls 6).before args s' = true := h _ (by simp [Bundle.ownAtoms])
  obtain ⟨vm₁, cX, kX, hfX, hkX, -, -, X₁, st1⟩ := Y.newCold hexec (own := own) (C := cls) (index := ik) (n := 6) hown' hk' hins hini'
    (g := F0 m pc ls rest) rfl (by rw [hb]; exact d0) (Nat.le_refl _) (Nat.le_refl _)
  generalize hT1 : (T.setVm vm₁).pushCell { cls := cX, slots := kX.instanceTypes.map defaultValue, vm := .none } = T1 at X₁ st1
  have hcat : (Value.ref T.heap.size).category = 1 := rfl
  have hcellA : T1.heap[T.heap.size]? = some (freshCell cX kX) := by rw [← hT1]; exact State.heap_pushCell_size _ _
  have d3' : decode c.code (pc + 3) = .ok (.dup, 1) := by rw [hb]; exact d3
  have d4' : decode c.code (pc + 4) = .ok (.ldc_w is, 3) := by rw [hb]; exact d4
  have hstr' : vk_R own is text sa s' := vk_R.warm hW0 hstr
  obtain ⟨U, hsteps, hrun, hend, hW, hsame, ce, hce, hO⟩ := X₁.ctorThrowS hexec htr (own := own) (cls := cls) (names := names) (ic := ic) hown' hcls hnames h (fun x hx => nomatch hx) hfX hkX hcellA (by rw [hhp, hT]; exact Nat.le_refl _) (msg := .ref sa) rfl
    (g := { method := m, pc := pc + 7, locals := ls, stack := .ref sa :: .ref T.heap.size :: .ref T.heap.size :: rest, locked := none }) rfl hsize rfl rfl (rest := rest) rfl
    (by rw [hb]; exact d7) (by rw [hb]; exact d10) hout hRframes (by simp only [List.map_cons, List.sum_cons, hcat]; omega) hlocks
  obtain ⟨f1, f2⟩ := vx_frame hsame
  rw [hhp] at f1 f2
  have hWs : s.WarmedH U.vm := State.WarmedH.trans hW0 hW
  have hcl : s.vm.findClass cls = some ce.cls := by
    have h9 := hO.cls
    rw [hvm] at h9
    exact h9
  have hall : s.sameButNew ({ U with vm := s.vm } : State) locs mc ms := by
    subst hA
    obtain ⟨e1, e2⟩ := hsame
    rw [State.setFrames_setFrames] at e1
    have h2 : (T.setVm s.vm).sameButNew ({ U with vm := s.vm } : State) [] (0 + 1) (0 + 6) := ⟨e1, e2⟩
    have h3 := X.same.trans h2
    rw [List.append_nil] at h3
    exact h3.mono hc hs
  refine ⟨U, ?_, .threw T.heap.size, hrun, hend, Or.inr ⟨T.heap.size, rfl, cls, ce, locs, hx U hWs.alike f1 (fun q hq => f2 q hq (fun z hz => nomatch hz)), hce, hO.vm, hcl, hWs, hall, hf⟩⟩
  refine st1 _ ?_
  show Steps p.tables e below (T1.setTop { method := m, pc := pc + 3, locals := ls, stack := .ref T.heap.size :: rest, locked := none }) _
  jvm_step X₁.here [X₁.here.top, hexec, d3', Value.category]
  exact X₁.ldcStringW hexec (own := own) (text := text) (index := is) (a := sa) hown' hstr'.1 hstr'.2
    (g := { method := m, pc := pc + 4, locals := ls, stack := .ref T.heap.size :: .ref T.heap.size :: rest, locked := none }) rfl d4' _ hsteps
end Ends
section Bodies
variable {l : Launch}
theorem vx_ofW {y : MethodName} {ws ws' : List Cond} {rm : Room} {Pc : Array Value → State → Prop} {Qc : Array Value → State → Outcome → State → Prop} {XC : String → State → State → Prop} {mc ms : Nat} {free : Addr → Prop} {cc : ByteArray} {maxL : Nat} {ret : Option FieldType}
    (hy : plainName y.cls = true) (hw : ws = Cond.code y cc maxL ret :: ws')
    (body : ∀ p e s m args below meth c s₁, BodyLoose p l y (headSpec ws rm) cc maxL ret e s m args below meth c s₁ → c.maxLocals = maxL → (∀ x ∈ c.exceptionTable.toList, False) → Pc args s →
      W p l e (headSpec ws rm).room s m args below meth c s.heap [] 0 0 (vx_MQ below Qc XC args s mc ms free) (entryFrame m args maxL)) : vx_Met l y ws rm Pc Qc XC mc ms free := by
  refine MetFree.of_bodyS (code := cc) (maxLocals := maxL) (ret := ret) hy ?_ ?_
  · intro args s m h hn
    obtain ⟨meth, c, h1, h2, h3, h4, h5, h6, -, -⟩ := Cond.code_spec hn (atoms_spec (ws := ws) h _ (by rw [hw]; exact List.mem_cons_self))
    exact ⟨meth, c, h1, h2, h3, h4, h5, h6⟩
  · intro p e s m args below meth c s₁ B hml hP _
    have hh0 : s₁.heap = s.heap := by rw [B.state]; rfl
    have ht : ∀ x ∈ c.exceptionTable.toList, False := by
      obtain ⟨meth9, c9, h1, h2, -, -, -, -, h7, -⟩ := Cond.code_spec B.named (atoms_spec (ws := ws) B.pre _ (by rw [hw]; exact List.mem_cons_self))
      cases Option.some.inj (h1.symm.trans B.method)
      cases Option.some.inj (h2.symm.trans (Stand.of_body B).code)
      intro x hx
      rw [Array.isEmpty_iff.mp h7] at hx
      cases hx
    obtain ⟨t, a1, o, b1, b2, b3⟩ := body p e s m args below meth c s₁ B hml ht hP s₁ hh0 (Stand.of_body B)
    exact ⟨t, o, a1, b1, b2, b3⟩
/-- the table of a body with handlers -/
theorem vx_table {p : Program} {x y : MethodName} {S : Spec} {cc bytes : ByteArray} {maxL maxL' : Nat} {ret ret' : Option FieldType} {e : Env} {s s₁ : State} {m : MethodId} {args : Array Value} {below : List Frame} {meth : Method} {c : Code} {hh : List (Nat × Nat × Nat × Nat)}
    (B : BodyLoose p l y S cc maxL ret e s m args below meth c s₁) (h : (Cond.codeWith y bytes maxL' ret' hh).before args s = true) : c.exceptionTable.toList = tableOf hh := by
  obtain ⟨m9, meth9, c9, hn9, h1, h2, -, -, h6, -⟩ := Cond.codeWith_spec h
  cases Option.some.inj (hn9.symm.trans B.named)
  cases Option.some.inj (h1.symm.trans B.method)
  cases Option.some.inj (h2.symm.trans (Stand.of_body B).code)
  rw [← h6, table_eq]
end Bodies
end VXA
/-! ===== END ===== -/
/-! ===== BEGIN a static call of a method with an exception table ===== -/
section VXS
variable {p : Program} {l : Launch} {e : Env} {R : Room} {s : State} {m : MethodId} {args : Array Value} {below : List Frame} {meth : Method} {c : Code} {T : State} {H : Heap} {locs : List Loc} {cells slots : Nat}
abbrev vx_CSW (R : Room) (s : State) (args : Array Value) (own : String) (index : Nat) (y : MethodName) (bytes : ByteArray) (maxL : Nat) (ret : Option FieldType) (hh : List (Nat × Nat × Nat × Nat)) (ws : List Cond) (rm : Room) (mc ms n : Nat) : Prop :=
  (rm.cells = mc ∧ rm.slots = ms ∧ rm.frames + 1 ≤ R.frames ∧ 8 + (maxL + 11) + rm.locals ≤ R.locals ∧ (∀ w ∈ ws, ∀ (a' : Array Value) (U : State), s.WarmedH U.vm → w.before a' U = true) ∧ Cond.codeWith y bytes maxL ret hh ∈ ws) ∧
  (Cond.codeWith y bytes maxL ret hh).before args s = true ∧ (Cond.initialized y.cls).before args s = true ∧ (y.cls ≠ "java/lang/invoke/MethodHandle" ∧ y.cls ≠ "java/lang/invoke/VarHandle") ∧
  (∀ sig, parseMethodDescriptor y.desc = some sig → n = sig.parameters.length) ∧ (Cond.methodLink own index y).before args s = true ∧ (Cond.static y).before args s = true
theorem vx_cwSW {own : String} {index maxL mc ms : Nat} {y : MethodName} {bytes : ByteArray} {ret : Option FieldType} {hh : List (Nat × Nat × Nat × Nat)} {Ts ws ws' : List Cond} {rm : Room} (n : Nat) (ht : ∀ w ∈ Ts, w.before args s = true) (hT : GoodIn Ts (va_wsS own index y ws)) (hw : ws = Cond.codeWith y bytes maxL ret hh :: ws') (hrc : rm.cells = mc) (hrs : rm.slots = ms)
    (hd : y.cls ≠ "java/lang/invoke/MethodHandle" ∧ y.cls ≠ "java/lang/invoke/VarHandle" ∧ (parseMethodDescriptor y.desc).map (fun d => d.parameters.length) = some n) (hR : rm.frames + 1 ≤ R.frames ∧ 8 + (maxL + 11) + rm.locals ≤ R.locals) :
    vx_CSW R s args own index y bytes maxL ret hh ws rm mc ms n := by
  have ok : ∀ w ∈ va_wsS own index y ws, w.before args s = true := fun w h => ht w (hT w h).1
  have hG : GoodIn Ts ws := fun w h => hT w (by unfold va_wsS; exact List.mem_append_right _ h)
  have hc : Cond.codeWith y bytes maxL ret hh ∈ ws := by rw [hw]; exact List.mem_cons_self
  refine ⟨⟨hrc, hrs, hR.1, hR.2, pay_in ht hG, hc⟩, ht _ (hG _ hc).1, ok _ (by simp [va_wsS]), ⟨hd.1, hd.2.1⟩, fun sig h => ?_, ok _ (by simp [va_wsS]), ok _ (by simp [va_wsS])⟩
  have h2 := hd.2.2
  rw [h] at h2
  exact (Option.some.inj h2).symm
theorem vx_callSW (X : Stand p l e R s m args below meth c T locs cells slots) (hexec : p.tables.exec = Jvm.exec) {own : String} {index : Nat} {y : MethodName} {bytes : ByteArray} {maxL : Nat} {ret : Option FieldType} {hh : List (Nat × Nat × Nat × Nat)}
    (hown : s.vm.findClass own = some m.cls) (hlink : (Cond.methodLink own index y).before args s = true) (hstat : (Cond.static y).before args s = true) (hinit : (Cond.initialized y.cls).before args s = true)
    (hcode : (Cond.codeWith y bytes maxL ret hh).before args s = true) (hy : y.cls ≠ "java/lang/invoke/MethodHandle" ∧ y.cls ≠ "java/lang/invoke/VarHandle")
    {W9 : Nat} {Pre : Pt → Array Value → Prop} {Post : Pt → Array Value → Option Value → Pt → Prop} (hK : Back l R p e below s args y 3 W9 Pre Post)
    {g : JFrame} (hg : g.method = m) (hsize : g.locals.size = c.maxLocals) {argsL rest : List Value} (hlen : ∀ sig, parseMethodDescriptor y.desc = some sig → argsL.length = sig.parameters.length)
    (hstack : g.stack = argsL.reverse ++ rest) (hW : 2 * g.monitorRoom + (rest.map fun v => v.category).sum ≤ W9) (hdg : decode c.code g.pc = .ok (.invokestatic index, 3))
    (hpre : ∀ vm₁, s.WarmedH vm₁ → Pre ⟨T.setVm vm₁, locs, cells, slots⟩ argsL.toArray) :
    ∃ (v : Option Value) (vm₁ : Vm) (B : Pt), s.WarmedH vm₁ ∧ Stand p l e R s m args below meth c B.U B.locs B.cells B.slots ∧ Post ⟨T.setVm vm₁, locs, cells, slots⟩ argsL.toArray v B ∧
      ∀ target, Steps p.tables e below (B.U.setTop { g with pc := g.pc + 3, stack := v.toList ++ rest }) target → Steps p.tables e below (T.setTop g) target := by
  obtain ⟨mk, methM, cM, hnamed, hmethM, -, -, -, -, -, -, hsigM⟩ := Cond.codeWith_spec hcode
  have hstatic : methM.isStatic = true := Cond.static_spec hnamed hmethM hstat
  obtain ⟨kP, hkP, -⟩ := className_of_methodNamed hnamed
  have hinitP : kP.init = .initialized := Cond.initialized_spec (findClass_of_methodNamed hnamed) hkP hinit
  obtain ⟨vm₁, X₁, hstep₁⟩ := X.invokestatic hexec hown hlink hnamed hmethM hstatic hkP hinitP hy (g := g) hg (argsL := argsL) (rest := rest) (hlen _ hsigM) hstack hdg
  obtain ⟨v, B, X', hpost, hsteps⟩ := hK m meth c ⟨T.setVm vm₁, locs, cells, slots⟩ { g with stack := rest } (.invokestatic index) mk argsL.toArray X₁ hg hsize hdg hW (X₁.named hnamed) (hpre vm₁ X₁.warmed)
  exact ⟨v, vm₁, B, X₁.warmed, X', hpost, fun target h => hstep₁ _ fun acts => by rw [doInvoke_state]; exact hsteps.trans h⟩
theorem vx_runSW {y : MethodName} {bytes cc : ByteArray} {maxL nL mc ms n index : Nat} {ret : Option FieldType} {hh : List (Nat × Nat × Nat × Nat)} {ws : List Cond} {rm : Room} {Pc : Array Value → State → Prop} {Qc : Array Value → State → Outcome → State → Prop} {free : Addr → Prop} {Ts : List Cond} {own : String} {As rest : List Value} {g : JFrame}
    (S : CallFix p m c cc nL s args Ts own) (hM : Met l y ws rm Pc Qc mc ms free) (cw : vx_CSW R s args own index y bytes maxL ret hh ws rm mc ms n) (hp : PreS s H Pc As)
    (hg : g.method = m) (hn : As.length = n) (hsize : g.locals.size = nL) (hstack : g.stack = As.reverse ++ rest) (hW : 2 * g.monitorRoom + (rest.map fun v => v.category).sum ≤ 8) (hdg : decode cc g.pc = .ok (.invokestatic index, 3)) (hf : cells + mc ≤ R.cells ∧ slots + ms ≤ R.slots) :
    va_Run p l e R s m args below meth c H locs cells slots mc ms g rest (Qc As.toArray) (free) := by
  obtain ⟨⟨hrc, hrs, hfr, hlo, hws, hcw⟩, hcode, hini, hy, hlen, hl, hstt⟩ := cw
  have hK : Back l R p e below s args y 3 8 (PreOf R mc ms Pc) (PostOf Qc mc ms free) := va_backW (hh := hh) (bytes := bytes) (maxL := maxL) (ret := ret) hM hp.1 hrc hrs hfr hlo hws hcw (fun a' U hW => word_at hW (Or.inl (by first | rfl | simp [Cond.onTables, Cond.keeps, Cond.steady])) hini)
  obtain ⟨hx, hb, hml, ho, -⟩ := S
  intro T hT X
  obtain ⟨v, vm₁, ⟨U', l2, c2, s2⟩, hW₁, X', ⟨g', mk, t, L, e1, e2, hq, h1, hL, h2, h3⟩, st⟩ := vx_callSW X hx (hh := hh) (bytes := bytes) (maxL := maxL) (ret := ret) ho hl hstt hini hcode hy hK hg (hsize.trans hml.symm) (argsL := As) (rest := rest) (fun sig h => hn.trans (hlen sig h)) hstack hW (by rw [hb]; exact hdg)
    (fun vm₁ hW₁ => ⟨hf.1, hf.2, hp.2 (T.setVm vm₁) hT hW₁⟩)
  dsimp only [Pt.U, Pt.locs, Pt.cells, Pt.slots] at X' e1 e2 h1 h2 h3 st
  subst h1; subst h2; subst h3
  exact ⟨v, (T.setVm vm₁).calling g' mk As.toArray, t, U', L, hT, X', hL, e1, e2, hq, st⟩
/-- not caught here, past rows that name other classes: it goes on to the caller -/
theorem vx_outP {p : Program} {l : Launch} {e : Env} {R : Room} {s : State} {m : MethodId} {args : Array Value} {below : List Frame} {meth : Method} {c : Code} {H : Heap} {locs : List Loc} {cells slots : Nat} {free : Addr → Prop} {ls : Array Slot} {rest : List Value} {Qc : Array Value → State → Outcome → State → Prop} {XC : String → State → State → Prop}
    {pc : Nat} {own E : String} {ce : Cell} {q : Addr} {mc ms : Nat} (hown : s.vm.findClass own = some m.cls) (hlocks : meth.locks = false)
    (hpass : ∀ z ∈ c.exceptionTable.toList, covers z pc = false ∨ (z.catchType ≠ 0 ∧ ∃ nm : String, (Cond.classLink own z.catchType nm).before args s = true ∧ va_Nc E nm s)) (hcell : H[q]? = some ce) (hv : ce.vm = .none) (hcl : s.vm.findClass E = some ce.cls)
    (hx : ∀ t : State, t.heap = H → s.vm.Alike t.vm → XC E s t) (hf : ∀ z ∈ locs, free z.base) (hc : cells ≤ mc) (hs : slots ≤ ms) :
    vx_W p l e R s m args below meth c H locs cells slots (vx_MQ below Qc XC args s mc ms free) (F0 m pc ls rest) q := by
  intro T hT X
  have hpl : e.platform.magicAccessors = ({} : Platform).magicAccessors := by rw [X.admits.platform]
  obtain ⟨vm', hW', X', st⟩ := X.outThrough hlocks q (g := F0 m pc ls rest) rfl rfl rfl (cell := ce) (by rw [hT]; exact hcell) (by rw [hv]; rfl)
    (by obtain ⟨k9, h9, -⟩ := Vm.findClass_spec hcl; exact ⟨k9, h9⟩) (fun z hz => by
      rcases hpass z hz with h | ⟨hz0, nm, hl1, hn1⟩
      · exact Or.inl h
      · obtain ⟨c6, hc6, hcl6⟩ := Cond.classLink_spec hown hl1 e.platform hpl
        obtain ⟨a8, b8, h1, h2, h3⟩ := hn1
        cases Option.some.inj (h1.symm.trans hcl)
        cases Option.some.inj (h2.symm.trans hc6)
        exact Or.inr ⟨hz0, _, hcl6, h3⟩)
  obtain ⟨g₀, hfr⟩ := X'.frames_eq
  have hcell9 : ((T.setVm vm').setFrames (.throwing q :: below)).heap[q]? = some ce := by
    show T.heap[q]? = some ce
    rw [hT]; exact hcell
  have hend : Ended ((T.setVm vm').setFrames (.throwing q :: below)) below (.threw q) := State.frames_setFrames _ (State.cur_lt_of_frames hfr)
  refine ⟨(T.setVm vm').setFrames (.throwing q :: below), ?_, .threw q, X'.here.running, hend, Or.inr ⟨q, rfl, E, ce, locs, hx _ hT (X'.ends _).1.alike, hcell9, hv, hcl, (X'.ends _).1, (X'.ends _).2.mono hc hs, hf⟩⟩
  rw [X.pushThrowing_eq]
  exact st
/-- a thing of a world lies in the heap -/
theorem vx_lt {D : va_G} {cl : List vw_C} {ws : va_W} {H1 : Heap} (h : va_P D cl ws H1) {k : Nat} {q : Nat × va_E} (hk : ws[k]? = some q) : q.1 < H1.size := (h k q hk).lt
end VXS
/-! ===== END ===== -/
/-! ===== BEGIN methods with a table of their own: called by a name, returning or throwing ===== -/
section VXH
/-! vx_backW, vx_callVX, vx_callSX, vx_callVW, vx_runVW, vx_runVX, vx_runSX, vx_ofWH follow the same proofs as their sisters above (Free/Laws.lean, Shelf42/LK1.lean); vx_outP calls Shelf42/NT130.lean (outThrough). -/
section
variable {l : Launch} {R : Room} {p : Program} {e : Env} {below : List Frame} {s : State} {sargs : Array Value} {y : MethodName} {len W9 : Nat}
theorem vx_backW {ws : List Cond} {rm : Room} {Pc : Array Value → State → Prop} {Qc : Array Value → State → Outcome → State → Prop} {XC : String → State → State → Prop} {mc ms : Nat} {free : Addr → Prop} {bytes : ByteArray} {maxL : Nat} {ret : Option FieldType} {hh : List (Nat × Nat × Nat × Nat)}
    (hM : vx_Met l y ws rm Pc Qc XC mc ms free) (hblind : FrameBlind Pc) (hrc : rm.cells = mc) (hrs : rm.slots = ms)
    (hframes : rm.frames + 1 ≤ R.frames) (hlocals : W9 + (maxL + 11) + rm.locals ≤ R.locals)
    (hws : ∀ w ∈ ws, ∀ a' U, s.WarmedH U.vm → w.before a' U = true) (hcode : Cond.codeWith y bytes maxL ret hh ∈ ws) (hinit : ∀ a' U, s.WarmedH U.vm → (Cond.initialized y.cls).before a' U = true) :
    vx_Back l R p e below s sargs y len W9 (PreOf R mc ms Pc) (PostOf Qc mc ms free) (vx_Post XC mc ms free) := by
  intro m meth c A g ig mk a X hg hsize hdg hW hn hp
  have h1 : (headSpec ws rm).pre.before a A.U = true := atoms_intro fun w hw => hws w hw _ _ X.warmed
  have h2 : (Cond.codeWith y bytes maxL ret hh).before a A.U = true := hws _ hcode _ _ X.warmed
  have h3 : (Cond.initialized y.cls).before a A.U = true := hinit _ _ X.warmed
  have h4 : A.cells + (headSpec ws rm).room.cells ≤ R.cells := by rw [show (headSpec ws rm).room.cells = mc from hrc]; exact hp.1
  have h5 : A.slots + (headSpec ws rm).room.slots ≤ R.slots := by rw [show (headSpec ws rm).room.slots = ms from hrs]; exact hp.2.1
  have hPc : Pc a (A.U.calling g mk a) := hblind _ _ _ _ hp.2.2
  obtain ⟨U, Ls, c0, s0⟩ := A
  dsimp only [Pt.U, Pt.locs, Pt.cells, Pt.slots] at h1 h2 h3 h4 h5 X hn hPc ⊢
  obtain ⟨m9, methY, cY, hn9, hmY, hcY, -, hlY, -⟩ := Cond.codeWith_spec h2
  cases Option.some.inj (hn9.symm.trans hn)
  obtain ⟨kY, hkY, -⟩ := className_of_methodNamed hn
  have hinitY : kY.init = .initialized := Cond.initialized_spec (findClass_of_methodNamed hn) hkY h3
  have h : At U g.method c below := by rw [hg]; exact X.here
  have hlocals9 : W9 + (maxL + 11) + (headSpec ws rm).room.locals ≤ R.locals := hlocals
  have happ : (headSpec ws rm).appliesLoose y e.platform (U.calling g mk a) = true :=
    Spec.appliesLoose_calling (g := g) h hdg hn hkY hinitY
      (X.room_calling (g := g) (R' := (headSpec ws rm).room) hsize hmY hcY hframes (by rw [hlY]; omega) h4 h5) h1
  obtain ⟨mid, hmid⟩ := h.above
  have hfr : (U.setTop g).frames = (.java g :: mid) ++ below := by rw [State.frames_setTop' g h.top, hmid]; rfl
  obtain ⟨o, s₂, hsteps, -, hend, hq⟩ := Steps.callFree hM p X.admits X.cas X.clock (acts := []) hfr happ hPc trivial
  have hq' : vx_Q Qc XC mc ms free a (U.calling g mk a) o s₂ := hq
  rw [State.frames_setTop' g h.top] at hend
  obtain ⟨g₀, hg0⟩ := Option.isSome_iff_exists.mp h.top
  obtain ⟨r, hr⟩ := State.topJava?_eq_some.mp hg0
  have hr' : (({ U with heap := s₂.heap, slotsUsed := s₂.slotsUsed } : State).setVm s₂.vm).frames = .java g₀ :: r := hr
  rcases hq' with ⟨hqc, L, hfe, hL⟩ | ⟨q, rfl, E, ce, L, hx, hce, hcv, hcl, hW₂, hsm, hL⟩
  · obtain ⟨⟨v, rfl⟩, hW₂, e2, q2, q3, q4, q5, q6⟩ := id hfe
    have e3 : s₂ = ({ (U.calling g mk a).setFrames s₂.frames with heap := s₂.heap, slotsUsed := s₂.slotsUsed } : State).setVm s₂.vm := by
      have : s₂ = ({ s₂ with vm := (U.calling g mk a).vm } : State).setVm s₂.vm := rfl
      rw [e2] at this
      exact this
    obtain ⟨c₂, i₂, len₂, hc₂, hd₂, hf₂⟩ := hend
    have hW' : U.WarmedH s₂.vm := hW₂
    have hcc : c₂ = c := by
      have h1 : s₂.code? g.method = U.code? g.method := by
        rw [State.code?_eq, State.code?_eq, hW'.alike.method?]
      exact Option.some.inj (hc₂.symm.trans (h1.trans h.code))
    subst hcc
    have hlen : len₂ = len := by rw [hdg] at hd₂; cases hd₂; rfl
    subst hlen
    have hs₂ : s₂ = (({ U with heap := s₂.heap, slotsUsed := s₂.slotsUsed } : State).setVm s₂.vm).setTop { g with pc := g.pc + len₂, stack := v.toList ++ g.stack } := by
      refine e3.trans ?_
      rw [hf₂, State.calling_eq h.top, State.setFrames_setFrames, State.setTop_of_frames _ hr', hr]
      rfl
    have hsame : U.sameButNew ({ U with heap := s₂.heap, slotsUsed := s₂.slotsUsed } : State) L mc ms := by
      refine ⟨?_, q2, q3, q4, q5, q6⟩
      obtain ⟨t, ht, -⟩ := State.frames_cons hr
      show ({ U with heap := s₂.heap, slotsUsed := s₂.slotsUsed } : State) = { U.setFrames U.frames with heap := s₂.heap, slotsUsed := s₂.slotsUsed }
      rw [State.setFrames_self ht]
    subst hg
    refine Or.inl ⟨v, ⟨(({ U with heap := s₂.heap, slotsUsed := s₂.slotsUsed } : State).setVm s₂.vm), Ls ++ L, c0 + mc, s0 + ms⟩,
      ⟨X.admits, X.cas, X.clock, X.frames, X.room, X.hears, X.method, X.code, (X.here.setHeapUsed s₂.heap s₂.slotsUsed).setVm hW'.alike, X.tail, State.WarmedH.trans X.warmed hW', X.limits, X.bytes, X.same.trans (hsame.setVm s.vm)⟩,
      ⟨g, mk, s₂, L, rfl, rfl, hqc, rfl, hL, rfl, rfl⟩, ?_⟩
    show Steps p.tables e below _ ((({ U with heap := s₂.heap, slotsUsed := s₂.slotsUsed } : State).setVm s₂.vm).setTop { g with pc := g.pc + len₂, stack := v.toList ++ g.stack })
    rw [← hs₂]
    exact hsteps
  · obtain ⟨e2, q2, q3, q4, q5, q6⟩ := id hsm
    have e3 : s₂ = ({ (U.calling g mk a).setFrames s₂.frames with heap := s₂.heap, slotsUsed := s₂.slotsUsed } : State).setVm s₂.vm := by
      have : s₂ = ({ s₂ with vm := (U.calling g mk a).vm } : State).setVm s₂.vm := rfl
      rw [e2] at this
      exact this
    have hf₂ : s₂.frames = .throwing q :: .java g :: U.frames.tail := hend
    have hW' : U.WarmedH s₂.vm := hW₂
    have hs₂ : s₂ = ((({ U with heap := s₂.heap, slotsUsed := s₂.slotsUsed } : State).setVm s₂.vm).setTop g).pushFrame (.throwing q) := by
      refine e3.trans ?_
      rw [hf₂, State.calling_eq h.top, State.setFrames_setFrames, State.pushFrame, State.frames_setTop _ hr', State.setTop_of_frames _ hr', State.setFrames_setFrames, hr]
      rfl
    have hsame : U.sameButNew ({ U with heap := s₂.heap, slotsUsed := s₂.slotsUsed } : State) L mc ms := by
      refine ⟨?_, q2, q3, q4, q5, q6⟩
      obtain ⟨t, ht, -⟩ := State.frames_cons hr
      show ({ U with heap := s₂.heap, slotsUsed := s₂.slotsUsed } : State) = { U.setFrames U.frames with heap := s₂.heap, slotsUsed := s₂.slotsUsed }
      rw [State.setFrames_self ht]
    subst hg
    refine Or.inr ⟨q, ⟨(({ U with heap := s₂.heap, slotsUsed := s₂.slotsUsed } : State).setVm s₂.vm), Ls ++ L, c0 + mc, s0 + ms⟩,
      ⟨X.admits, X.cas, X.clock, X.frames, X.room, X.hears, X.method, X.code, (X.here.setHeapUsed s₂.heap s₂.slotsUsed).setVm hW'.alike, X.tail, State.WarmedH.trans X.warmed hW', X.limits, X.bytes, X.same.trans (hsame.setVm s.vm)⟩,
      ⟨g, mk, s₂, L, E, ce, rfl, rfl, hx, hce, hcv, hcl, rfl, hL, rfl, rfl⟩, ?_⟩
    show Steps p.tables e below _ (((({ U with heap := s₂.heap, slotsUsed := s₂.slotsUsed } : State).setVm s₂.vm).setTop g).pushFrame (.throwing q))
    rw [← hs₂]
    exact hsteps
end
variable {p : Program} {l : Launch} {e : Env} {R : Room} {s : State} {m : MethodId} {args : Array Value} {below : List Frame} {meth : Method} {c : Code} {T : State} {H : Heap} {locs : List Loc} {cells slots : Nat}
theorem vx_callVX (X : Stand p l e R s m args below meth c T locs cells slots) (hexec : p.tables.exec = Jvm.exec) {own C : String} {index : Nat} {y : MethodName} {bytes : ByteArray} {maxL : Nat} {ret : Option FieldType} {hh : List (Nat × Nat × Nat × Nat)}
    (hown : s.vm.findClass own = some m.cls) (hlink : (Cond.methodLink own index y).before args s = true) (hinst : (Cond.instanceMethod y).before args s = true) (hsel : (Cond.selects C y y).before args s = true)
    (hcode : (Cond.codeWith y bytes maxL ret hh).before args s = true) (hy : y.cls ≠ "java/lang/invoke/MethodHandle" ∧ y.cls ≠ "java/lang/invoke/VarHandle")
    {W9 : Nat} {Pre : Pt → Array Value → Prop} {Post : Pt → Array Value → Option Value → Pt → Prop} {PostX : Pt → Array Value → Addr → Pt → Prop} (hK : vx_Back l R p e below s args y 3 W9 Pre Post PostX)
    {b : Addr} {cellB : Cell} (hcell : T.heap[b]? = some cellB) (hobj : cellB.vm.isStatics = false) (hcls : s.vm.findClass C = some cellB.cls)
    {g : JFrame} (hg : g.method = m) (hsize : g.locals.size = c.maxLocals) {argsL rest : List Value} (hlen : ∀ sig, parseMethodDescriptor y.desc = some sig → argsL.length = sig.parameters.length)
    (hstack : g.stack = argsL.reverse ++ .ref b :: rest) (hW : 2 * g.monitorRoom + (rest.map fun v => v.category).sum ≤ W9) (hdg : decode c.code g.pc = .ok (.invokevirtual index, 3))
    (hpre : ∀ vm₁, s.WarmedH vm₁ → Pre ⟨T.setVm vm₁, locs, cells, slots⟩ (Value.ref b :: argsL).toArray) :
    (∃ (v : Option Value) (vm₁ : Vm) (B : Pt), s.WarmedH vm₁ ∧ Stand p l e R s m args below meth c B.U B.locs B.cells B.slots ∧ Post ⟨T.setVm vm₁, locs, cells, slots⟩ (Value.ref b :: argsL).toArray v B ∧
      ∀ target, Steps p.tables e below (B.U.setTop { g with pc := g.pc + 3, stack := v.toList ++ rest }) target → Steps p.tables e below (T.setTop g) target) ∨
    (∃ (q : Addr) (vm₁ : Vm) (B : Pt), s.WarmedH vm₁ ∧ Stand p l e R s m args below meth c B.U B.locs B.cells B.slots ∧ PostX ⟨T.setVm vm₁, locs, cells, slots⟩ (Value.ref b :: argsL).toArray q B ∧
      Steps p.tables e below (T.setTop g) ((B.U.setTop { g with stack := rest }).pushFrame (.throwing q))) := by
  obtain ⟨mk, methM, hnamed, hmethM, hstM, habM⟩ := Cond.instanceMethod_spec hinst
  obtain ⟨m8, methM', cM, hn8, hmethM', -, -, -, -, -, -, hsigM⟩ := Cond.codeWith_spec hcode
  cases Option.some.inj (hn8.symm.trans hnamed)
  cases hmethM.symm.trans hmethM'
  obtain ⟨c2, r2, m2, q1, q2, q3, q4, kP, hkP, hkPi⟩ := Cond.selects_spec hsel
  cases hcls.symm.trans q1
  cases (State.methodFound?_of_named hnamed hy).symm.trans q2
  cases hnamed.symm.trans q3
  have hselP : selectMethod e.platform s.vm cellB.cls mk = .method mk := by rw [Launch.admits_selectMethod X.admits]; exact q4
  obtain ⟨vm₁, X₁, hstep₁⟩ := X.invokevirtual hexec hown hlink hnamed hmethM hstM hkP hkPi hy (a := b) (cell := cellB) hcell
    (fun z h => by rw [h] at hobj; cases hobj) hselP hmethM habM hkP hkPi (g := g) hg (argsL := argsL) (rest := rest) (hlen _ hsigM) hstack hdg
  rcases hK m meth c ⟨T.setVm vm₁, locs, cells, slots⟩ { g with stack := rest } (.invokevirtual index) mk (Value.ref b :: argsL).toArray X₁ hg hsize hdg hW (X₁.named hnamed) (hpre vm₁ X₁.warmed) with ⟨v, B, X', hpost, hsteps⟩ | ⟨q, B, X', hpost, hsteps⟩
  · exact Or.inl ⟨v, vm₁, B, X₁.warmed, X', hpost, fun target h => hstep₁ _ fun acts => by rw [doInvoke_state]; exact hsteps.trans h⟩
  · exact Or.inr ⟨q, vm₁, B, X₁.warmed, X', hpost, hstep₁ _ fun acts => by rw [doInvoke_state]; exact hsteps⟩
theorem vx_callSX (X : Stand p l e R s m args below meth c T locs cells slots) (hexec : p.tables.exec = Jvm.exec) {own : String} {index : Nat} {y : MethodName} {bytes : ByteArray} {maxL : Nat} {ret : Option FieldType} {hh : List (Nat × Nat × Nat × Nat)}
    (hown : s.vm.findClass own = some m.cls) (hlink : (Cond.methodLink own index y).before args s = true) (hstat : (Cond.static y).before args s = true) (hinit : (Cond.initialized y.cls).before args s = true)
    (hcode : (Cond.codeWith y bytes maxL ret hh).before args s = true) (hy : y.cls ≠ "java/lang/invoke/MethodHandle" ∧ y.cls ≠ "java/lang/invoke/VarHandle")
    {W9 : Nat} {Pre : Pt → Array Value → Prop} {Post : Pt → Array Value → Option Value → Pt → Prop} {PostX : Pt → Array Value → Addr → Pt → Prop} (hK : vx_Back l R p e below s args y 3 W9 Pre Post PostX)
    {g : JFrame} (hg : g.method = m) (hsize : g.locals.size = c.maxLocals) {argsL rest : List Value} (hlen : ∀ sig, parseMethodDescriptor y.desc = some sig → argsL.length = sig.parameters.length)
    (hstack : g.stack = argsL.reverse ++ rest) (hW : 2 * g.monitorRoom + (rest.map fun v => v.category).sum ≤ W9) (hdg : decode c.code g.pc = .ok (.invokestatic index, 3))
    (hpre : ∀ vm₁, s.WarmedH vm₁ → Pre ⟨T.setVm vm₁, locs, cells, slots⟩ argsL.toArray) :
    (∃ (v : Option Value) (vm₁ : Vm) (B : Pt), s.WarmedH vm₁ ∧ Stand p l e R s m args below meth c B.U B.locs B.cells B.slots ∧ Post ⟨T.setVm vm₁, locs, cells, slots⟩ argsL.toArray v B ∧
      ∀ target, Steps p.tables e below (B.U.setTop { g with pc := g.pc + 3, stack := v.toList ++ rest }) target → Steps p.tables e below (T.setTop g) target) ∨
    (∃ (q : Addr) (vm₁ : Vm) (B : Pt), s.WarmedH vm₁ ∧ Stand p l e R s m args below meth c B.U B.locs B.cells B.slots ∧ PostX ⟨T.setVm vm₁, locs, cells, slots⟩ argsL.toArray q B ∧
      Steps p.tables e below (T.setTop g) ((B.U.setTop { g with stack := rest }).pushFrame (.throwing q))) := by
  obtain ⟨mk, methM, cM, hnamed, hmethM, -, -, -, -, -, -, hsigM⟩ := Cond.codeWith_spec hcode
  have hstatic : methM.isStatic = true := Cond.static_spec hnamed hmethM hstat
  obtain ⟨kP, hkP, -⟩ := className_of_methodNamed hnamed
  have hinitP : kP.init = .initialized := Cond.initialized_spec (findClass_of_methodNamed hnamed) hkP hinit
  obtain ⟨vm₁, X₁, hstep₁⟩ := X.invokestatic hexec hown hlink hnamed hmethM hstatic hkP hinitP hy (g := g) hg (argsL := argsL) (rest := rest) (hlen _ hsigM) hstack hdg
  rcases hK m meth c ⟨T.setVm vm₁, locs, cells, slots⟩ { g with stack := rest } (.invokestatic index) mk argsL.toArray X₁ hg hsize hdg hW (X₁.named hnamed) (hpre vm₁ X₁.warmed) with ⟨v, B, X', hpost, hsteps⟩ | ⟨q, B, X', hpost, hsteps⟩
  · exact Or.inl ⟨v, vm₁, B, X₁.warmed, X', hpost, fun target h => hstep₁ _ fun acts => by rw [doInvoke_state]; exact hsteps.trans h⟩
  · exact Or.inr ⟨q, vm₁, B, X₁.warmed, X', hpost, hstep₁ _ fun acts => by rw [doInvoke_state]; exact hsteps⟩
theorem vx_callVW (X : Stand p l e R s m args below meth c T locs cells slots) (hexec : p.tables.exec = Jvm.exec) {own C : String} {index : Nat} {y : MethodName} {bytes : ByteArray} {maxL : Nat} {ret : Option FieldType} {hh : List (Nat × Nat × Nat × Nat)}
    (hown : s.vm.findClass own = some m.cls) (hlink : (Cond.methodLink own index y).before args s = true) (hinst : (Cond.instanceMethod y).before args s = true) (hsel : (Cond.selects C y y).before args s = true)
    (hcode : (Cond.codeWith y bytes maxL ret hh).before args s = true) (hy : y.cls ≠ "java/lang/invoke/MethodHandle" ∧ y.cls ≠ "java/lang/invoke/VarHandle")
    {W9 : Nat} {Pre : Pt → Array Value → Prop} {Post : Pt → Array Value → Option Value → Pt → Prop} (hK : Back l R p e below s args y 3 W9 Pre Post)
    {b : Addr} {cellB : Cell} (hcell : T.heap[b]? = some cellB) (hobj : cellB.vm.isStatics = false) (hcls : s.vm.findClass C = some cellB.cls)
    {g : JFrame} (hg : g.method = m) (hsize : g.locals.size = c.maxLocals) {argsL rest : List Value} (hlen : ∀ sig, parseMethodDescriptor y.desc = some sig → argsL.length = sig.parameters.length)
    (hstack : g.stack = argsL.reverse ++ .ref b :: rest) (hW : 2 * g.monitorRoom + (rest.map fun v => v.category).sum ≤ W9) (hdg : decode c.code g.pc = .ok (.invokevirtual index, 3))
    (hpre : ∀ vm₁, s.WarmedH vm₁ → Pre ⟨T.setVm vm₁, locs, cells, slots⟩ (Value.ref b :: argsL).toArray) :
    ∃ (v : Option Value) (vm₁ : Vm) (B : Pt), s.WarmedH vm₁ ∧ Stand p l e R s m args below meth c B.U B.locs B.cells B.slots ∧ Post ⟨T.setVm vm₁, locs, cells, slots⟩ (Value.ref b :: argsL).toArray v B ∧
      ∀ target, Steps p.tables e below (B.U.setTop { g with pc := g.pc + 3, stack := v.toList ++ rest }) target → Steps p.tables e below (T.setTop g) target := by
  obtain ⟨mk, methM, hnamed, hmethM, hstM, habM⟩ := Cond.instanceMethod_spec hinst
  obtain ⟨m8, methM', cM, hn8, hmethM', -, -, -, -, -, -, hsigM⟩ := Cond.codeWith_spec hcode
  cases Option.some.inj (hn8.symm.trans hnamed)
  cases hmethM.symm.trans hmethM'
  obtain ⟨c2, r2, m2, q1, q2, q3, q4, kP, hkP, hkPi⟩ := Cond.selects_spec hsel
  cases hcls.symm.trans q1
  cases (State.methodFound?_of_named hnamed hy).symm.trans q2
  cases hnamed.symm.trans q3
  have hselP : selectMethod e.platform s.vm cellB.cls mk = .method mk := by rw [Launch.admits_selectMethod X.admits]; exact q4
  obtain ⟨vm₁, X₁, hstep₁⟩ := X.invokevirtual hexec hown hlink hnamed hmethM hstM hkP hkPi hy (a := b) (cell := cellB) hcell
    (fun z h => by rw [h] at hobj; cases hobj) hselP hmethM habM hkP hkPi (g := g) hg (argsL := argsL) (rest := rest) (hlen _ hsigM) hstack hdg
  obtain ⟨v, B, X', hpost, hsteps⟩ := hK m meth c ⟨T.setVm vm₁, locs, cells, slots⟩ { g with stack := rest } (.invokevirtual index) mk (Value.ref b :: argsL).toArray X₁ hg hsize hdg hW (X₁.named hnamed) (hpre vm₁ X₁.warmed)
  exact ⟨v, vm₁, B, X₁.warmed, X', hpost, fun target h => hstep₁ _ fun acts => by rw [doInvoke_state]; exact hsteps.trans h⟩
abbrev vx_CVW (R : Room) (s : State) (args : Array Value) (own C : String) (index : Nat) (y : MethodName) (bytes : ByteArray) (maxL : Nat) (ret : Option FieldType) (hh : List (Nat × Nat × Nat × Nat)) (ws : List Cond) (rm : Room) (mc ms n : Nat) : Prop :=
  (rm.cells = mc ∧ rm.slots = ms ∧ rm.frames + 1 ≤ R.frames ∧ 8 + (maxL + 11) + rm.locals ≤ R.locals ∧ (∀ w ∈ ws, ∀ (a' : Array Value) (U : State), s.WarmedH U.vm → w.before a' U = true) ∧ Cond.codeWith y bytes maxL ret hh ∈ ws) ∧
  (Cond.codeWith y bytes maxL ret hh).before args s = true ∧ (Cond.initialized y.cls).before args s = true ∧ (y.cls ≠ "java/lang/invoke/MethodHandle" ∧ y.cls ≠ "java/lang/invoke/VarHandle") ∧
  (∀ sig, parseMethodDescriptor y.desc = some sig → n = sig.parameters.length) ∧ (Cond.methodLink own index y).before args s = true ∧ (Cond.instanceMethod y).before args s = true ∧ (Cond.selects C y y).before args s = true
theorem vx_cwVW {own C : String} {index maxL mc ms : Nat} {y : MethodName} {bytes : ByteArray} {ret : Option FieldType} {hh : List (Nat × Nat × Nat × Nat)} {Ts ws ws' : List Cond} {rm : Room} (n : Nat) (ht : ∀ w ∈ Ts, w.before args s = true) (hT : GoodIn Ts (wsV own index C y ws)) (hw : ws = Cond.codeWith y bytes maxL ret hh :: ws') (hrc : rm.cells = mc) (hrs : rm.slots = ms)
    (hd : y.cls = C ∧ y.cls ≠ "java/lang/invoke/MethodHandle" ∧ y.cls ≠ "java/lang/invoke/VarHandle" ∧ (parseMethodDescriptor y.desc).map (fun d => d.parameters.length) = some n) (hR : rm.frames + 1 ≤ R.frames ∧ 8 + (maxL + 11) + rm.locals ≤ R.locals) :
    vx_CVW R s args own C index y bytes maxL ret hh ws rm mc ms n := by
  obtain ⟨hC, hd⟩ := hd
  subst hC
  have ok : ∀ w ∈ wsV own index y.cls y ws, w.before args s = true := fun w h => ht w (hT w h).1
  have hG : GoodIn Ts ws := fun w h => hT w (by unfold wsV; exact List.mem_append_right _ h)
  have hc : Cond.codeWith y bytes maxL ret hh ∈ ws := by rw [hw]; exact List.mem_cons_self
  refine ⟨⟨hrc, hrs, hR.1, hR.2, pay_in ht hG, hc⟩, ht _ (hG _ hc).1, ok _ (by simp [wsV]), ⟨hd.1, hd.2.1⟩, fun sig h => ?_, ok _ (by simp [wsV]), ok _ (by simp [wsV]), ok _ (by simp [wsV])⟩
  have h2 := hd.2.2
  rw [h] at h2
  exact (Option.some.inj h2).symm
theorem vx_runVW {y : MethodName} {bytes cc : ByteArray} {maxL nL mc ms n index : Nat} {ret : Option FieldType} {hh : List (Nat × Nat × Nat × Nat)} {ws : List Cond} {rm : Room} {Pc : Array Value → State → Prop} {Qc : Array Value → State → Outcome → State → Prop} {free : Addr → Prop} {Ts : List Cond} {own C : String} {b : Addr} {As rest : List Value} {g : JFrame}
    (S : CallFix p m c cc nL s args Ts own) (hM : Met l y ws rm Pc Qc mc ms free) (cw : vx_CVW R s args own C index y bytes maxL ret hh ws rm mc ms n) (hp : PreV s H C b Pc As)
    (hg : g.method = m) (hn : As.length = n) (hsize : g.locals.size = nL) (hstack : g.stack = As.reverse ++ .ref b :: rest) (hW : 2 * g.monitorRoom + (rest.map fun v => v.category).sum ≤ 8) (hdg : decode cc g.pc = .ok (.invokevirtual index, 3)) (hf : cells + mc ≤ R.cells ∧ slots + ms ≤ R.slots) :
    va_Run p l e R s m args below meth c H locs cells slots mc ms g rest (Qc (Value.ref b :: As).toArray) free := by
  obtain ⟨⟨hrc, hrs, hfr, hlo, hws, hcw⟩, hcode, hini, hy, hlen, hl, hin, hse⟩ := cw
  have hK : Back l R p e below s args y 3 8 (PreOf R mc ms Pc) (PostOf Qc mc ms free) := va_backW (hh := hh) (bytes := bytes) (maxL := maxL) (ret := ret) hM hp.1 hrc hrs hfr hlo hws hcw (fun a' U hW => word_at hW (Or.inl (by first | rfl | simp [Cond.onTables, Cond.keeps, Cond.steady])) hini)
  obtain ⟨hx, hb, hml, ho, -⟩ := S
  obtain ⟨-, ⟨cellB, hcB, hoB, hclB⟩, hPc⟩ := hp
  intro T hT X
  obtain ⟨v, vm₁, ⟨U', l2, c2, s2⟩, hW₁, X', ⟨g', mk, t, L, e1, e2, hq, h1, hL, h2, h3⟩, st⟩ := vx_callVW X hx (C := C) (hh := hh) (bytes := bytes) (maxL := maxL) (ret := ret) ho hl hin hse hcode hy hK (by rw [hT]; exact hcB) hoB hclB hg (hsize.trans hml.symm) (argsL := As) (rest := rest) (fun sig h => hn.trans (hlen sig h)) hstack hW (by rw [hb]; exact hdg)
    (fun vm₁ hW₁ => ⟨hf.1, hf.2, hPc (T.setVm vm₁) hT hW₁⟩)
  dsimp only [Pt.U, Pt.locs, Pt.cells, Pt.slots] at X' e1 e2 h1 h2 h3 st
  subst h1; subst h2; subst h3
  exact ⟨v, (T.setVm vm₁).calling g' mk (Value.ref b :: As).toArray, t, U', L, hT, X', hL, e1, e2, hq, st⟩
section
variable {y : MethodName} {bytes cc : ByteArray} {maxL nL mc ms n index : Nat} {ret : Option FieldType} {ws : List Cond} {rm : Room} {Pc : Array Value → State → Prop} {Qc : Array Value → State → Outcome → State → Prop} {XC : String → State → State → Prop} {free : Addr → Prop} {Ts : List Cond} {own C : String} {b : Addr} {As rest : List Value} {g : JFrame}
theorem vx_runVX {hh : List (Nat × Nat × Nat × Nat)} (S : CallFix p m c cc nL s args Ts own) (hM : vx_Met l y ws rm Pc Qc XC mc ms free) (cw : vx_CVW R s args own C index y bytes maxL ret hh ws rm mc ms n) (hp : PreV s H C b Pc As)
    (hg : g.method = m) (hn : As.length = n) (hsize : g.locals.size = nL) (hstack : g.stack = As.reverse ++ .ref b :: rest) (hW : 2 * g.monitorRoom + (rest.map fun v => v.category).sum ≤ 8) (hdg : decode cc g.pc = .ok (.invokevirtual index, 3)) (hf : cells + mc ≤ R.cells ∧ slots + ms ≤ R.slots) :
    vx_Run p l e R s m args below meth c H locs cells slots mc ms g rest (Qc (Value.ref b :: As).toArray) XC free := by
  obtain ⟨⟨hrc, hrs, hfr, hlo, hws, hcw⟩, hcode, hini, hy, hlen, hl, hin, hse⟩ := cw
  have hK : vx_Back l R p e below s args y 3 8 (PreOf R mc ms Pc) (PostOf Qc mc ms free) (vx_Post XC mc ms free) := vx_backW (hh := hh) (bytes := bytes) (maxL := maxL) (ret := ret) hM hp.1 hrc hrs hfr hlo hws hcw (fun a' U hW => word_at hW (Or.inl (by first | rfl | simp [Cond.onTables, Cond.keeps, Cond.steady])) hini)
  obtain ⟨hx, hb, hml, ho, -⟩ := S
  obtain ⟨-, ⟨cellB, hcB, hoB, hclB⟩, hPc⟩ := hp
  intro T hT X
  rcases vx_callVX X hx (C := C) (hh := hh) (bytes := bytes) (maxL := maxL) (ret := ret) ho hl hin hse hcode hy hK (by rw [hT]; exact hcB) hoB hclB hg (hsize.trans hml.symm) (argsL := As) (rest := rest) (fun sig h => hn.trans (hlen sig h)) hstack hW (by rw [hb]; exact hdg)
    (fun vm₁ hW₁ => ⟨hf.1, hf.2, hPc (T.setVm vm₁) hT hW₁⟩) with ⟨v, vm₁, ⟨U', l2, c2, s2⟩, hW₁, X', ⟨g', mk, t, L, e1, e2, hq, h1, hL, h2, h3⟩, st⟩ | ⟨q, vm₁, ⟨U', l2, c2, s2⟩, hW₁, X', ⟨g', mk, t, L, E, ce, e1, e2, hq, hce, hcv, hcl, h1, hL, h2, h3⟩, st⟩
  · dsimp only [Pt.U, Pt.locs, Pt.cells, Pt.slots] at X' e1 e2 h1 h2 h3 st
    subst h1; subst h2; subst h3
    exact Or.inl ⟨v, (T.setVm vm₁).calling g' mk (Value.ref b :: As).toArray, t, U', L, hT, X', hL, e1, e2, hq, st⟩
  · dsimp only [Pt.U, Pt.locs, Pt.cells, Pt.slots] at X' e1 e2 h1 h2 h3 st hcl
    subst h1; subst h2; subst h3
    exact Or.inr ⟨q, (T.setVm vm₁).calling g' mk (Value.ref b :: As).toArray, t, U', L, E, ce, hT, X', hL, e1, e2, hq, hce, hcv, vx_cls hW₁ hcl, st⟩
theorem vx_runSX {hh : List (Nat × Nat × Nat × Nat)} (S : CallFix p m c cc nL s args Ts own) (hM : vx_Met l y ws rm Pc Qc XC mc ms free) (cw : vx_CSW R s args own index y bytes maxL ret hh ws rm mc ms n) (hp : PreS s H Pc As)
    (hg : g.method = m) (hn : As.length = n) (hsize : g.locals.size = nL) (hstack : g.stack = As.reverse ++ rest) (hW : 2 * g.monitorRoom + (rest.map fun v => v.category).sum ≤ 8) (hdg : decode cc g.pc = .ok (.invokestatic index, 3)) (hf : cells + mc ≤ R.cells ∧ slots + ms ≤ R.slots) :
    vx_Run p l e R s m args below meth c H locs cells slots mc ms g rest (Qc As.toArray) XC free := by
  obtain ⟨⟨hrc, hrs, hfr, hlo, hws, hcw⟩, hcode, hini, hy, hlen, hl, hstt⟩ := cw
  have hK : vx_Back l R p e below s args y 3 8 (PreOf R mc ms Pc) (PostOf Qc mc ms free) (vx_Post XC mc ms free) := vx_backW (hh := hh) (bytes := bytes) (maxL := maxL) (ret := ret) hM hp.1 hrc hrs hfr hlo hws hcw (fun a' U hW => word_at hW (Or.inl (by first | rfl | simp [Cond.onTables, Cond.keeps, Cond.steady])) hini)
  obtain ⟨hx, hb, hml, ho, -⟩ := S
  intro T hT X
  rcases vx_callSX X hx (hh := hh) (bytes := bytes) (maxL := maxL) (ret := ret) ho hl hstt hini hcode hy hK hg (hsize.trans hml.symm) (argsL := As) (rest := rest) (fun sig h => hn.trans (hlen sig h)) hstack hW (by rw [hb]; exact hdg)
    (fun vm₁ hW₁ => ⟨hf.1, hf.2, hp.2 (T.setVm vm₁) hT hW₁⟩) with ⟨v, vm₁, ⟨U', l2, c2, s2⟩, hW₁, X', ⟨g', mk, t, L, e1, e2, hq, h1, hL, h2, h3⟩, st⟩ | ⟨q, vm₁, ⟨U', l2, c2, s2⟩, hW₁, X', ⟨g', mk, t, L, E, ce, e1, e2, hq, hce, hcv, hcl, h1, hL, h2, h3⟩, st⟩
  · dsimp only [Pt.U, Pt.locs, Pt.cells, Pt.slots] at X' e1 e2 h1 h2 h3 st
    subst h1; subst h2; subst h3
    exact Or.inl ⟨v, (T.setVm vm₁).calling g' mk As.toArray, t, U', L, hT, X', hL, e1, e2, hq, st⟩
  · dsimp only [Pt.U, Pt.locs, Pt.cells, Pt.slots] at X' e1 e2 h1 h2 h3 st hcl
    subst h1; subst h2; subst h3
    exact Or.inr ⟨q, (T.setVm vm₁).calling g' mk As.toArray, t, U', L, E, ce, hT, X', hL, e1, e2, hq, hce, hcv, vx_cls hW₁ hcl, st⟩
end
end VXH
theorem vx_ofWH {l : Launch} {y : MethodName} {ws ws' : List Cond} {rm : Room} {Pc : Array Value → State → Prop} {Qc : Array Value → State → Outcome → State → Prop} {XC : String → State → State → Prop} {mc ms : Nat} {free : Addr → Prop} {cc : ByteArray} {maxL : Nat} {ret : Option FieldType} {hh : List (Nat × Nat × Nat × Nat)}
    (hy : plainName y.cls = true) (hw : ws = Cond.codeWith y cc maxL ret hh :: ws')
    (body : ∀ p e s m args below meth c s₁, BodyLoose p l y (headSpec ws rm) cc maxL ret e s m args below meth c s₁ → c.maxLocals = maxL → Pc args s →
      W p l e (headSpec ws rm).room s m args below meth c s.heap [] 0 0 (vx_MQ below Qc XC args s mc ms free) (entryFrame m args maxL)) : vx_Met l y ws rm Pc Qc XC mc ms free := by
  refine MetFree.of_bodyS (code := cc) (maxLocals := maxL) (ret := ret) hy ?_ ?_
  · intro args s m h hn
    obtain ⟨m9, meth, c, hn9, h1, h2, h3, h4, -, h5, h6, -⟩ := Cond.codeWith_spec (atoms_spec (ws := ws) h _ (by rw [hw]; exact List.mem_cons_self))
    cases hn.symm.trans hn9
    exact ⟨meth, c, h1, h2, h3, h4, h5, h6⟩
  · intro p e s m args below meth c s₁ B hml hP _
    have hh0 : s₁.heap = s.heap := by rw [B.state]; rfl
    obtain ⟨t, a1, o, b1, b2, b3⟩ := body p e s m args below meth c s₁ B hml hP s₁ hh0 (Stand.of_body B)
    exact ⟨t, o, a1, b1, b2, b3⟩
/-! ===== END ===== -/
end
section
-- ===== PART A: goes FIRST, ahead of the names: the tables' words, and 'selects' of the private methods out of them =====
/-- a private method of a class that the tables say can be made, by its rows of tables_1 -/
def lw_okq (q : MethodName × Nat) : Prop := (q.1.cls ≠ "java/lang/invoke/MethodHandle" ∧ q.1.cls ≠ "java/lang/invoke/VarHandle") ∧ Cond.instantiable q.1.cls q.2 ∈ tables_1 ∧ Cond.privateMethod q.1 ∈ tables_1 ∧ Cond.instanceMethod q.1 ∈ tables_1
theorem lw_p0 : lw_okq (⟨"AmendsLedger", "codeAt", "(I)I"⟩, 7) := ⟨⟨by decide +kernel, by decide +kernel⟩, List.mem_of_getElem? (i := 19) (by decide +kernel), List.mem_of_getElem? (i := 193) (by decide +kernel), List.mem_of_getElem? (i := 194) (by decide +kernel)⟩
theorem lw_p1 : lw_okq (⟨"AmendsLedger$State", "topUp", "(I)I"⟩, 8) := ⟨⟨by decide +kernel, by decide +kernel⟩, List.mem_of_getElem? (i := 27) (by decide +kernel), List.mem_of_getElem? (i := 289) (by decide +kernel), List.mem_of_getElem? (i := 290) (by decide +kernel)⟩
theorem lw_p2 : lw_okq (⟨"AmendsLedger$State", "hand", "(II)V"⟩, 8) := ⟨⟨by decide +kernel, by decide +kernel⟩, List.mem_of_getElem? (i := 27) (by decide +kernel), List.mem_of_getElem? (i := 293) (by decide +kernel), List.mem_of_getElem? (i := 294) (by decide +kernel)⟩
theorem lw_p3 : lw_okq (⟨"java/lang/Throwable", "fillInStackTrace", "(I)Ljava/lang/Throwable;"⟩, 6) := ⟨⟨by decide +kernel, by decide +kernel⟩, List.mem_of_getElem? (i := 377) (by decide +kernel), List.mem_of_getElem? (i := 375) (by decide +kernel), List.mem_of_getElem? (i := 376) (by decide +kernel)⟩
theorem lw_p4 : lw_okq (⟨"AmendsLedger$Complaints", "areAlike", "(II)Z"⟩, 10) := ⟨⟨by decide +kernel, by decide +kernel⟩, List.mem_of_getElem? (i := 56) (by decide +kernel), List.mem_of_getElem? (i := 416) (by decide +kernel), List.mem_of_getElem? (i := 417) (by decide +kernel)⟩
theorem lw_p5 : lw_okq (⟨"AmendsLedger", "withKind", "(JI)J"⟩, 7) := ⟨⟨by decide +kernel, by decide +kernel⟩, List.mem_of_getElem? (i := 19) (by decide +kernel), List.mem_of_getElem? (i := 445) (by decide +kernel), List.mem_of_getElem? (i := 446) (by decide +kernel)⟩
theorem lw_p6 : lw_okq (⟨"AmendsLedger", "withComplaint", "(JI)J"⟩, 7) := ⟨⟨by decide +kernel, by decide +kernel⟩, List.mem_of_getElem? (i := 19) (by decide +kernel), List.mem_of_getElem? (i := 536) (by decide +kernel), List.mem_of_getElem? (i := 537) (by decide +kernel)⟩
theorem lw_p7 : lw_okq (⟨"AmendsLedger", "withBuffer", "(J)J"⟩, 7) := ⟨⟨by decide +kernel, by decide +kernel⟩, List.mem_of_getElem? (i := 19) (by decide +kernel), List.mem_of_getElem? (i := 641) (by decide +kernel), List.mem_of_getElem? (i := 642) (by decide +kernel)⟩
theorem lw_p8 : lw_okq (⟨"AmendsLedger", "save", "()V"⟩, 7) := ⟨⟨by decide +kernel, by decide +kernel⟩, List.mem_of_getElem? (i := 19) (by decide +kernel), List.mem_of_getElem? (i := 673) (by decide +kernel), List.mem_of_getElem? (i := 674) (by decide +kernel)⟩
theorem lw_p9 : lw_okq (⟨"AmendsLedger", "savedAt", "(I)LAmendsLedger$State;"⟩, 7) := ⟨⟨by decide +kernel, by decide +kernel⟩, List.mem_of_getElem? (i := 19) (by decide +kernel), List.mem_of_getElem? (i := 677) (by decide +kernel), List.mem_of_getElem? (i := 678) (by decide +kernel)⟩
theorem lw_p10 : lw_okq (⟨"AmendsLedger", "digitAt", "(I)I"⟩, 7) := ⟨⟨by decide +kernel, by decide +kernel⟩, List.mem_of_getElem? (i := 19) (by decide +kernel), List.mem_of_getElem? (i := 799) (by decide +kernel), List.mem_of_getElem? (i := 800) (by decide +kernel)⟩
theorem lw_p11 : lw_okq (⟨"AmendsLedgerModel", "fails", "(I)I"⟩, 12) := ⟨⟨by decide +kernel, by decide +kernel⟩, List.mem_of_getElem? (i := 850) (by decide +kernel), List.mem_of_getElem? (i := 910) (by decide +kernel), List.mem_of_getElem? (i := 911) (by decide +kernel)⟩
theorem lw_p12 : lw_okq (⟨"AmendsLedgerModel", "save", "()V"⟩, 12) := ⟨⟨by decide +kernel, by decide +kernel⟩, List.mem_of_getElem? (i := 850) (by decide +kernel), List.mem_of_getElem? (i := 914) (by decide +kernel), List.mem_of_getElem? (i := 915) (by decide +kernel)⟩
theorem lw_p13 : lw_okq (⟨"AmendsLedgerModel", "isAmends", "(II)Z"⟩, 12) := ⟨⟨by decide +kernel, by decide +kernel⟩, List.mem_of_getElem? (i := 850) (by decide +kernel), List.mem_of_getElem? (i := 925) (by decide +kernel), List.mem_of_getElem? (i := 926) (by decide +kernel)⟩
theorem lw_p14 : lw_okq (⟨"AmendsLedgerModel", "isOffered", "(II)Z"⟩, 12) := ⟨⟨by decide +kernel, by decide +kernel⟩, List.mem_of_getElem? (i := 850) (by decide +kernel), List.mem_of_getElem? (i := 929) (by decide +kernel), List.mem_of_getElem? (i := 930) (by decide +kernel)⟩
theorem lw_p15 : lw_okq (⟨"AmendsLedgerModel", "offered", "(I)I"⟩, 12) := ⟨⟨by decide +kernel, by decide +kernel⟩, List.mem_of_getElem? (i := 850) (by decide +kernel), List.mem_of_getElem? (i := 933) (by decide +kernel), List.mem_of_getElem? (i := 934) (by decide +kernel)⟩
def lw_privs_1 : List (MethodName × Nat) := [(⟨"AmendsLedger", "codeAt", "(I)I"⟩, 7), (⟨"AmendsLedger$State", "topUp", "(I)I"⟩, 8), (⟨"AmendsLedger$State", "hand", "(II)V"⟩, 8), (⟨"java/lang/Throwable", "fillInStackTrace", "(I)Ljava/lang/Throwable;"⟩, 6), (⟨"AmendsLedger$Complaints", "areAlike", "(II)Z"⟩, 10), (⟨"AmendsLedger", "withKind", "(JI)J"⟩, 7), (⟨"AmendsLedger", "withComplaint", "(JI)J"⟩, 7), (⟨"AmendsLedger", "withBuffer", "(J)J"⟩, 7), (⟨"AmendsLedger", "save", "()V"⟩, 7), (⟨"AmendsLedger", "savedAt", "(I)LAmendsLedger$State;"⟩, 7), (⟨"AmendsLedger", "digitAt", "(I)I"⟩, 7), (⟨"AmendsLedgerModel", "fails", "(I)I"⟩, 12), (⟨"AmendsLedgerModel", "save", "()V"⟩, 12), (⟨"AmendsLedgerModel", "isAmends", "(II)Z"⟩, 12), (⟨"AmendsLedgerModel", "isOffered", "(II)Z"⟩, 12), (⟨"AmendsLedgerModel", "offered", "(I)I"⟩, 12)]
theorem lw_r1 : ∀ q ∈ lw_privs_1, lw_okq q := List.forall_mem_cons.mpr ⟨lw_p0, List.forall_mem_cons.mpr ⟨lw_p1, List.forall_mem_cons.mpr ⟨lw_p2, List.forall_mem_cons.mpr ⟨lw_p3, List.forall_mem_cons.mpr ⟨lw_p4, List.forall_mem_cons.mpr ⟨lw_p5, List.forall_mem_cons.mpr ⟨lw_p6, List.forall_mem_cons.mpr ⟨lw_p7, List.forall_mem_cons.mpr ⟨lw_p8, List.forall_mem_cons.mpr ⟨lw_p9, List.forall_mem_cons.mpr ⟨lw_p10, List.forall_mem_cons.mpr ⟨lw_p11, List.forall_mem_cons.mpr ⟨lw_p12, List.forall_mem_cons.mpr ⟨lw_p13, List.forall_mem_cons.mpr ⟨lw_p14, List.forall_mem_cons.mpr ⟨lw_p15, fun _ h => absurd h List.not_mem_nil⟩⟩⟩⟩⟩⟩⟩⟩⟩⟩⟩⟩⟩⟩⟩⟩
theorem lw_p16 : lw_okq (⟨"AmendsLedgerModel", "complainNow", "(III)V"⟩, 12) := ⟨⟨by decide +kernel, by decide +kernel⟩, List.mem_of_getElem? (i := 850) (by decide +kernel), List.mem_of_getElem? (i := 952) (by decide +kernel), List.mem_of_getElem? (i := 953) (by decide +kernel)⟩
theorem lw_p17 : lw_okq (⟨"AmendsLedgerModel", "isComplaint", "(I)Z"⟩, 12) := ⟨⟨by decide +kernel, by decide +kernel⟩, List.mem_of_getElem? (i := 850) (by decide +kernel), List.mem_of_getElem? (i := 963) (by decide +kernel), List.mem_of_getElem? (i := 964) (by decide +kernel)⟩
theorem lw_p18 : lw_okq (⟨"AmendsLedgerModel", "whyDecided", "(III)I"⟩, 12) := ⟨⟨by decide +kernel, by decide +kernel⟩, List.mem_of_getElem? (i := 850) (by decide +kernel), List.mem_of_getElem? (i := 967) (by decide +kernel), List.mem_of_getElem? (i := 968) (by decide +kernel)⟩
theorem lw_p19 : lw_okq (⟨"AmendsLedgerModel", "fits", "(II)Z"⟩, 12) := ⟨⟨by decide +kernel, by decide +kernel⟩, List.mem_of_getElem? (i := 850) (by decide +kernel), List.mem_of_getElem? (i := 974) (by decide +kernel), List.mem_of_getElem? (i := 975) (by decide +kernel)⟩
theorem lw_p20 : lw_okq (⟨"AmendsLedgerModel", "binds", "(II)Z"⟩, 12) := ⟨⟨by decide +kernel, by decide +kernel⟩, List.mem_of_getElem? (i := 850) (by decide +kernel), List.mem_of_getElem? (i := 978) (by decide +kernel), List.mem_of_getElem? (i := 979) (by decide +kernel)⟩
theorem lw_p21 : lw_okq (⟨"AmendsLedgerModel", "latest", "(II)I"⟩, 12) := ⟨⟨by decide +kernel, by decide +kernel⟩, List.mem_of_getElem? (i := 850) (by decide +kernel), List.mem_of_getElem? (i := 982) (by decide +kernel), List.mem_of_getElem? (i := 983) (by decide +kernel)⟩
theorem lw_p22 : lw_okq (⟨"AmendsLedgerModel", "cost", "(II)I"⟩, 12) := ⟨⟨by decide +kernel, by decide +kernel⟩, List.mem_of_getElem? (i := 850) (by decide +kernel), List.mem_of_getElem? (i := 986) (by decide +kernel), List.mem_of_getElem? (i := 987) (by decide +kernel)⟩
theorem lw_p23 : lw_okq (⟨"AmendsLedgerModel", "left", "(I)I"⟩, 12) := ⟨⟨by decide +kernel, by decide +kernel⟩, List.mem_of_getElem? (i := 850) (by decide +kernel), List.mem_of_getElem? (i := 990) (by decide +kernel), List.mem_of_getElem? (i := 991) (by decide +kernel)⟩
theorem lw_p24 : lw_okq (⟨"AmendsLedgerModel", "give", "(II)V"⟩, 12) := ⟨⟨by decide +kernel, by decide +kernel⟩, List.mem_of_getElem? (i := 850) (by decide +kernel), List.mem_of_getElem? (i := 994) (by decide +kernel), List.mem_of_getElem? (i := 995) (by decide +kernel)⟩
theorem lw_p25 : lw_okq (⟨"AmendsLedgerModel", "setPrecedent", "(II)I"⟩, 12) := ⟨⟨by decide +kernel, by decide +kernel⟩, List.mem_of_getElem? (i := 850) (by decide +kernel), List.mem_of_getElem? (i := 998) (by decide +kernel), List.mem_of_getElem? (i := 999) (by decide +kernel)⟩
theorem lw_p26 : lw_okq (⟨"AmendsLedgerModel", "staged", "(I)I"⟩, 12) := ⟨⟨by decide +kernel, by decide +kernel⟩, List.mem_of_getElem? (i := 850) (by decide +kernel), List.mem_of_getElem? (i := 1006) (by decide +kernel), List.mem_of_getElem? (i := 1007) (by decide +kernel)⟩
theorem lw_p27 : lw_okq (⟨"AmendsLedgerModel", "whyJudged", "(II)I"⟩, 12) := ⟨⟨by decide +kernel, by decide +kernel⟩, List.mem_of_getElem? (i := 850) (by decide +kernel), List.mem_of_getElem? (i := 1014) (by decide +kernel), List.mem_of_getElem? (i := 1015) (by decide +kernel)⟩
theorem lw_p28 : lw_okq (⟨"AmendsLedgerModel", "judgeNow", "(II)I"⟩, 12) := ⟨⟨by decide +kernel, by decide +kernel⟩, List.mem_of_getElem? (i := 850) (by decide +kernel), List.mem_of_getElem? (i := 1018) (by decide +kernel), List.mem_of_getElem? (i := 1019) (by decide +kernel)⟩
theorem lw_p29 : lw_okq (⟨"AmendsLedgerModel", "topUps", "(I)I"⟩, 12) := ⟨⟨by decide +kernel, by decide +kernel⟩, List.mem_of_getElem? (i := 850) (by decide +kernel), List.mem_of_getElem? (i := 1022) (by decide +kernel), List.mem_of_getElem? (i := 1023) (by decide +kernel)⟩
theorem lw_p30 : lw_okq (⟨"AmendsLedgerModel", "waitsFor", "(I)I"⟩, 12) := ⟨⟨by decide +kernel, by decide +kernel⟩, List.mem_of_getElem? (i := 850) (by decide +kernel), List.mem_of_getElem? (i := 1026) (by decide +kernel), List.mem_of_getElem? (i := 1027) (by decide +kernel)⟩
theorem lw_p31 : lw_okq (⟨"AmendsLedgerModel", "closeNow", "()I"⟩, 12) := ⟨⟨by decide +kernel, by decide +kernel⟩, List.mem_of_getElem? (i := 850) (by decide +kernel), List.mem_of_getElem? (i := 1034) (by decide +kernel), List.mem_of_getElem? (i := 1035) (by decide +kernel)⟩
def lw_privs_2 : List (MethodName × Nat) := [(⟨"AmendsLedgerModel", "complainNow", "(III)V"⟩, 12), (⟨"AmendsLedgerModel", "isComplaint", "(I)Z"⟩, 12), (⟨"AmendsLedgerModel", "whyDecided", "(III)I"⟩, 12), (⟨"AmendsLedgerModel", "fits", "(II)Z"⟩, 12), (⟨"AmendsLedgerModel", "binds", "(II)Z"⟩, 12), (⟨"AmendsLedgerModel", "latest", "(II)I"⟩, 12), (⟨"AmendsLedgerModel", "cost", "(II)I"⟩, 12), (⟨"AmendsLedgerModel", "left", "(I)I"⟩, 12), (⟨"AmendsLedgerModel", "give", "(II)V"⟩, 12), (⟨"AmendsLedgerModel", "setPrecedent", "(II)I"⟩, 12), (⟨"AmendsLedgerModel", "staged", "(I)I"⟩, 12), (⟨"AmendsLedgerModel", "whyJudged", "(II)I"⟩, 12), (⟨"AmendsLedgerModel", "judgeNow", "(II)I"⟩, 12), (⟨"AmendsLedgerModel", "topUps", "(I)I"⟩, 12), (⟨"AmendsLedgerModel", "waitsFor", "(I)I"⟩, 12), (⟨"AmendsLedgerModel", "closeNow", "()I"⟩, 12)]
theorem lw_r2 : ∀ q ∈ lw_privs_2, lw_okq q := List.forall_mem_cons.mpr ⟨lw_p16, List.forall_mem_cons.mpr ⟨lw_p17, List.forall_mem_cons.mpr ⟨lw_p18, List.forall_mem_cons.mpr ⟨lw_p19, List.forall_mem_cons.mpr ⟨lw_p20, List.forall_mem_cons.mpr ⟨lw_p21, List.forall_mem_cons.mpr ⟨lw_p22, List.forall_mem_cons.mpr ⟨lw_p23, List.forall_mem_cons.mpr ⟨lw_p24, List.forall_mem_cons.mpr ⟨lw_p25, List.forall_mem_cons.mpr ⟨lw_p26, List.forall_mem_cons.mpr ⟨lw_p27, List.forall_mem_cons.mpr ⟨lw_p28, List.forall_mem_cons.mpr ⟨lw_p29, List.forall_mem_cons.mpr ⟨lw_p30, List.forall_mem_cons.mpr ⟨lw_p31, fun _ h => absurd h List.not_mem_nil⟩⟩⟩⟩⟩⟩⟩⟩⟩⟩⟩⟩⟩⟩⟩⟩
theorem lw_p32 : lw_okq (⟨"AmendsLedgerModel", "isText", "()Z"⟩, 12) := ⟨⟨by decide +kernel, by decide +kernel⟩, List.mem_of_getElem? (i := 850) (by decide +kernel), List.mem_of_getElem? (i := 1050) (by decide +kernel), List.mem_of_getElem? (i := 1051) (by decide +kernel)⟩
theorem lw_p33 : lw_okq (⟨"AmendsLedgerModel", "isOne", "()Z"⟩, 12) := ⟨⟨by decide +kernel, by decide +kernel⟩, List.mem_of_getElem? (i := 850) (by decide +kernel), List.mem_of_getElem? (i := 1054) (by decide +kernel), List.mem_of_getElem? (i := 1055) (by decide +kernel)⟩
theorem lw_p34 : lw_okq (⟨"AmendsLedgerModel", "takes", "(I)Z"⟩, 12) := ⟨⟨by decide +kernel, by decide +kernel⟩, List.mem_of_getElem? (i := 850) (by decide +kernel), List.mem_of_getElem? (i := 1058) (by decide +kernel), List.mem_of_getElem? (i := 1059) (by decide +kernel)⟩
theorem lw_p35 : lw_okq (⟨"AmendsLedgerModel", "digit", "(III)Z"⟩, 12) := ⟨⟨by decide +kernel, by decide +kernel⟩, List.mem_of_getElem? (i := 850) (by decide +kernel), List.mem_of_getElem? (i := 1062) (by decide +kernel), List.mem_of_getElem? (i := 1063) (by decide +kernel)⟩
theorem lw_p36 : lw_okq (⟨"AmendsLedgerModel", "complaintOf", "(II)I"⟩, 12) := ⟨⟨by decide +kernel, by decide +kernel⟩, List.mem_of_getElem? (i := 850) (by decide +kernel), List.mem_of_getElem? (i := 1078) (by decide +kernel), List.mem_of_getElem? (i := 1079) (by decide +kernel)⟩
theorem lw_p37 : lw_okq (⟨"AmendsLedgerModel", "amendsOf", "(III)I"⟩, 12) := ⟨⟨by decide +kernel, by decide +kernel⟩, List.mem_of_getElem? (i := 850) (by decide +kernel), List.mem_of_getElem? (i := 1086) (by decide +kernel), List.mem_of_getElem? (i := 1087) (by decide +kernel)⟩
theorem lw_p38 : lw_okq (⟨"AmendsLedgerModel", "having", "(II)I"⟩, 12) := ⟨⟨by decide +kernel, by decide +kernel⟩, List.mem_of_getElem? (i := 850) (by decide +kernel), List.mem_of_getElem? (i := 1090) (by decide +kernel), List.mem_of_getElem? (i := 1091) (by decide +kernel)⟩
theorem lw_p39 : lw_okq (⟨"AmendsLedgerModel", "precedentOf", "(III)I"⟩, 12) := ⟨⟨by decide +kernel, by decide +kernel⟩, List.mem_of_getElem? (i := 850) (by decide +kernel), List.mem_of_getElem? (i := 1098) (by decide +kernel), List.mem_of_getElem? (i := 1099) (by decide +kernel)⟩
theorem lw_p40 : lw_okq (⟨"AmendsLedgerModel", "following", "(I)I"⟩, 12) := ⟨⟨by decide +kernel, by decide +kernel⟩, List.mem_of_getElem? (i := 850) (by decide +kernel), List.mem_of_getElem? (i := 1102) (by decide +kernel), List.mem_of_getElem? (i := 1103) (by decide +kernel)⟩
theorem lw_p41 : lw_okq (⟨"AmendsLedgerModel", "kindOf", "(II)I"⟩, 12) := ⟨⟨by decide +kernel, by decide +kernel⟩, List.mem_of_getElem? (i := 850) (by decide +kernel), List.mem_of_getElem? (i := 1110) (by decide +kernel), List.mem_of_getElem? (i := 1111) (by decide +kernel)⟩
theorem lw_p42 : lw_okq (⟨"AmendsLedgerModel", "ofComplaints", "(II)I"⟩, 12) := ⟨⟨by decide +kernel, by decide +kernel⟩, List.mem_of_getElem? (i := 850) (by decide +kernel), List.mem_of_getElem? (i := 1114) (by decide +kernel), List.mem_of_getElem? (i := 1115) (by decide +kernel)⟩
theorem lw_p43 : lw_okq (⟨"AmendsLedgerModel", "counted", "(I)I"⟩, 12) := ⟨⟨by decide +kernel, by decide +kernel⟩, List.mem_of_getElem? (i := 850) (by decide +kernel), List.mem_of_getElem? (i := 1122) (by decide +kernel), List.mem_of_getElem? (i := 1123) (by decide +kernel)⟩
theorem lw_p44 : lw_okq (⟨"AmendsLedgerModel", "departing", "()I"⟩, 12) := ⟨⟨by decide +kernel, by decide +kernel⟩, List.mem_of_getElem? (i := 850) (by decide +kernel), List.mem_of_getElem? (i := 1126) (by decide +kernel), List.mem_of_getElem? (i := 1127) (by decide +kernel)⟩
theorem lw_p45 : lw_okq (⟨"AmendsLedgerModel", "unequal", "()I"⟩, 12) := ⟨⟨by decide +kernel, by decide +kernel⟩, List.mem_of_getElem? (i := 850) (by decide +kernel), List.mem_of_getElem? (i := 1130) (by decide +kernel), List.mem_of_getElem? (i := 1131) (by decide +kernel)⟩
theorem lw_p46 : lw_okq (⟨"AmendsLedgerModel", "customerAt", "(II)I"⟩, 12) := ⟨⟨by decide +kernel, by decide +kernel⟩, List.mem_of_getElem? (i := 850) (by decide +kernel), List.mem_of_getElem? (i := 1142) (by decide +kernel), List.mem_of_getElem? (i := 1143) (by decide +kernel)⟩
theorem lw_p47 : lw_okq (⟨"AmendsLedgerModel", "why", "(III)I"⟩, 12) := ⟨⟨by decide +kernel, by decide +kernel⟩, List.mem_of_getElem? (i := 850) (by decide +kernel), List.mem_of_getElem? (i := 1150) (by decide +kernel), List.mem_of_getElem? (i := 1151) (by decide +kernel)⟩
def lw_privs_3 : List (MethodName × Nat) := [(⟨"AmendsLedgerModel", "isText", "()Z"⟩, 12), (⟨"AmendsLedgerModel", "isOne", "()Z"⟩, 12), (⟨"AmendsLedgerModel", "takes", "(I)Z"⟩, 12), (⟨"AmendsLedgerModel", "digit", "(III)Z"⟩, 12), (⟨"AmendsLedgerModel", "complaintOf", "(II)I"⟩, 12), (⟨"AmendsLedgerModel", "amendsOf", "(III)I"⟩, 12), (⟨"AmendsLedgerModel", "having", "(II)I"⟩, 12), (⟨"AmendsLedgerModel", "precedentOf", "(III)I"⟩, 12), (⟨"AmendsLedgerModel", "following", "(I)I"⟩, 12), (⟨"AmendsLedgerModel", "kindOf", "(II)I"⟩, 12), (⟨"AmendsLedgerModel", "ofComplaints", "(II)I"⟩, 12), (⟨"AmendsLedgerModel", "counted", "(I)I"⟩, 12), (⟨"AmendsLedgerModel", "departing", "()I"⟩, 12), (⟨"AmendsLedgerModel", "unequal", "()I"⟩, 12), (⟨"AmendsLedgerModel", "customerAt", "(II)I"⟩, 12), (⟨"AmendsLedgerModel", "why", "(III)I"⟩, 12)]
theorem lw_r3 : ∀ q ∈ lw_privs_3, lw_okq q := List.forall_mem_cons.mpr ⟨lw_p32, List.forall_mem_cons.mpr ⟨lw_p33, List.forall_mem_cons.mpr ⟨lw_p34, List.forall_mem_cons.mpr ⟨lw_p35, List.forall_mem_cons.mpr ⟨lw_p36, List.forall_mem_cons.mpr ⟨lw_p37, List.forall_mem_cons.mpr ⟨lw_p38, List.forall_mem_cons.mpr ⟨lw_p39, List.forall_mem_cons.mpr ⟨lw_p40, List.forall_mem_cons.mpr ⟨lw_p41, List.forall_mem_cons.mpr ⟨lw_p42, List.forall_mem_cons.mpr ⟨lw_p43, List.forall_mem_cons.mpr ⟨lw_p44, List.forall_mem_cons.mpr ⟨lw_p45, List.forall_mem_cons.mpr ⟨lw_p46, List.forall_mem_cons.mpr ⟨lw_p47, fun _ h => absurd h List.not_mem_nil⟩⟩⟩⟩⟩⟩⟩⟩⟩⟩⟩⟩⟩⟩⟩⟩
theorem lw_p48 : lw_okq (⟨"AmendsLedgerModel", "fairOf", "(I)I"⟩, 12) := ⟨⟨by decide +kernel, by decide +kernel⟩, List.mem_of_getElem? (i := 850) (by decide +kernel), List.mem_of_getElem? (i := 1158) (by decide +kernel), List.mem_of_getElem? (i := 1159) (by decide +kernel)⟩
theorem lw_p49 : lw_okq (⟨"AmendsLedgerModel", "judgedOf", "(III)I"⟩, 12) := ⟨⟨by decide +kernel, by decide +kernel⟩, List.mem_of_getElem? (i := 850) (by decide +kernel), List.mem_of_getElem? (i := 1166) (by decide +kernel), List.mem_of_getElem? (i := 1167) (by decide +kernel)⟩
theorem lw_p50 : lw_okq (⟨"AmendsLedgerModel", "putAside", "()V"⟩, 12) := ⟨⟨by decide +kernel, by decide +kernel⟩, List.mem_of_getElem? (i := 850) (by decide +kernel), List.mem_of_getElem? (i := 1170) (by decide +kernel), List.mem_of_getElem? (i := 1171) (by decide +kernel)⟩
theorem lw_p51 : lw_okq (⟨"AmendsLedgerModel", "putBack", "()V"⟩, 12) := ⟨⟨by decide +kernel, by decide +kernel⟩, List.mem_of_getElem? (i := 850) (by decide +kernel), List.mem_of_getElem? (i := 1174) (by decide +kernel), List.mem_of_getElem? (i := 1175) (by decide +kernel)⟩
theorem lw_p52 : lw_okq (⟨"AmendsLedgerModel", "monthsOf", "()I"⟩, 12) := ⟨⟨by decide +kernel, by decide +kernel⟩, List.mem_of_getElem? (i := 850) (by decide +kernel), List.mem_of_getElem? (i := 1182) (by decide +kernel), List.mem_of_getElem? (i := 1183) (by decide +kernel)⟩
theorem lw_p53 : lw_okq (⟨"AmendsLedgerModel", "shareOf", "()D"⟩, 12) := ⟨⟨by decide +kernel, by decide +kernel⟩, List.mem_of_getElem? (i := 850) (by decide +kernel), List.mem_of_getElem? (i := 1190) (by decide +kernel), List.mem_of_getElem? (i := 1191) (by decide +kernel)⟩
theorem lw_p54 : lw_okq (⟨"AmendsLedgerModel", "mix", "(J)V"⟩, 12) := ⟨⟨by decide +kernel, by decide +kernel⟩, List.mem_of_getElem? (i := 850) (by decide +kernel), List.mem_of_getElem? (i := 1199) (by decide +kernel), List.mem_of_getElem? (i := 1200) (by decide +kernel)⟩
theorem lw_p55 : lw_okq (⟨"AmendsLedgerModel", "mixKind", "(I)V"⟩, 12) := ⟨⟨by decide +kernel, by decide +kernel⟩, List.mem_of_getElem? (i := 850) (by decide +kernel), List.mem_of_getElem? (i := 1204) (by decide +kernel), List.mem_of_getElem? (i := 1205) (by decide +kernel)⟩
theorem lw_p56 : lw_okq (⟨"AmendsLedgerModel", "mixComplaint", "(I)V"⟩, 12) := ⟨⟨by decide +kernel, by decide +kernel⟩, List.mem_of_getElem? (i := 850) (by decide +kernel), List.mem_of_getElem? (i := 1208) (by decide +kernel), List.mem_of_getElem? (i := 1209) (by decide +kernel)⟩
def lw_privs_4 : List (MethodName × Nat) := [(⟨"AmendsLedgerModel", "fairOf", "(I)I"⟩, 12), (⟨"AmendsLedgerModel", "judgedOf", "(III)I"⟩, 12), (⟨"AmendsLedgerModel", "putAside", "()V"⟩, 12), (⟨"AmendsLedgerModel", "putBack", "()V"⟩, 12), (⟨"AmendsLedgerModel", "monthsOf", "()I"⟩, 12), (⟨"AmendsLedgerModel", "shareOf", "()D"⟩, 12), (⟨"AmendsLedgerModel", "mix", "(J)V"⟩, 12), (⟨"AmendsLedgerModel", "mixKind", "(I)V"⟩, 12), (⟨"AmendsLedgerModel", "mixComplaint", "(I)V"⟩, 12)]
theorem lw_r4 : ∀ q ∈ lw_privs_4, lw_okq q := List.forall_mem_cons.mpr ⟨lw_p48, List.forall_mem_cons.mpr ⟨lw_p49, List.forall_mem_cons.mpr ⟨lw_p50, List.forall_mem_cons.mpr ⟨lw_p51, List.forall_mem_cons.mpr ⟨lw_p52, List.forall_mem_cons.mpr ⟨lw_p53, List.forall_mem_cons.mpr ⟨lw_p54, List.forall_mem_cons.mpr ⟨lw_p55, List.forall_mem_cons.mpr ⟨lw_p56, fun _ h => absurd h List.not_mem_nil⟩⟩⟩⟩⟩⟩⟩⟩⟩
def lw_privs : List (MethodName × Nat) := lw_privs_1 ++ (lw_privs_2 ++ (lw_privs_3 ++ (lw_privs_4)))
def lw_tbl : List Cond := k2_sels lw_privs ++ tables_1
theorem lw_privs_ok : ∀ q ∈ lw_privs, lw_okq q := by
  show ∀ q ∈ lw_privs_1 ++ (lw_privs_2 ++ (lw_privs_3 ++ (lw_privs_4))), lw_okq q
  exact List.forall_mem_append.mpr ⟨lw_r1, List.forall_mem_append.mpr ⟨lw_r2, List.forall_mem_append.mpr ⟨lw_r3, lw_r4⟩⟩⟩
/-- the streams that the claim lets the run draw from -/
abbrev lw_cs : List Choice := [Jvm.Choice.named "NaN.bits"]
theorem lw_bits : nanBits ∈ lw_cs := by first | decide | exact List.mem_cons_self | simp [lw_cs, nanBits]
-- ===== end of PART A; then your names; then what follows =====
def RX0 : String := "AmendsLedger$Complaints"
def TX0 : u_T := fun k => match k with
  | 0 => ("AmendsLedger$Complaints", "size", "I", false)
  | 1 => ("AmendsLedger$Complaints", "kinds", "[I", true)
  | 2 => ("AmendsLedger$Complaints", "severities", "[I", true)
  | 3 => ("AmendsLedger$Complaints", "customers", "[I", true)
  | 4 => ("AmendsLedger$Complaints", "stages", "[I", true)
  | 5 => ("AmendsLedger$Complaints", "amendsHad", "[I", true)
  | 6 => ("AmendsLedger$Complaints", "got", "[I", true)
  | 7 => ("AmendsLedger$Complaints", "reasons", "[I", true)
  | 8 => ("AmendsLedger$Complaints", "months", "[I", true)
  | _ => ("AmendsLedger$Complaints", "followed", "[I", true)
def tyX0 : Nat → FieldType := fun k => match k with
  | 0 => .int
  | 1 => .array .int
  | 2 => .array .int
  | 3 => .array .int
  | 4 => .array .int
  | 5 => .array .int
  | 6 => .array .int
  | 7 => .array .int
  | 8 => .array .int
  | _ => .array .int
abbrev wsX00 : List Cond := u_ws RX0 TX0 10
theorem nmX0 : ∀ a, a < 10 → ∀ b, b < 10 → a ≠ b → (TX0 a).2.1 ≠ (TX0 b).2.1 := by decide +kernel
theorem tyX0_ok : ∀ k, k < 10 → parseFieldDescriptor (TX0 k).2.2.1 = some (tyX0 k) := by decide +kernel
abbrev cX0_init : ByteArray := prog_2_method_1_code
def yX0_init : MethodName := ⟨RX0, "<init>", "()V"⟩
abbrev cX0_copyFrom : ByteArray := prog_2_method_2_code
def yX0_copyFrom : MethodName := ⟨RX0, "copyFrom", "(LAmendsLedger$Complaints;)V"⟩
abbrev cX0_has : ByteArray := prog_2_method_3_code
def yX0_has : MethodName := ⟨RX0, "has", "(I)Z"⟩
abbrev cX0_add : ByteArray := prog_2_method_4_code
def yX0_add : MethodName := ⟨RX0, "add", "(III)I"⟩
abbrev cX0_kindOf : ByteArray := prog_2_method_5_code
def yX0_kindOf : MethodName := ⟨RX0, "kindOf", "(I)I"⟩
abbrev cX0_severityOf : ByteArray := prog_2_method_6_code
def yX0_severityOf : MethodName := ⟨RX0, "severityOf", "(I)I"⟩
abbrev cX0_customerOf : ByteArray := prog_2_method_7_code
def yX0_customerOf : MethodName := ⟨RX0, "customerOf", "(I)I"⟩
abbrev cX0_groupOf : ByteArray := prog_2_method_8_code
def yX0_groupOf : MethodName := ⟨RX0, "groupOf", "(I)I"⟩
abbrev cX0_stageOf : ByteArray := prog_2_method_9_code
def yX0_stageOf : MethodName := ⟨RX0, "stageOf", "(I)I"⟩
abbrev cX0_amendsOf : ByteArray := prog_2_method_10_code
def yX0_amendsOf : MethodName := ⟨RX0, "amendsOf", "(I)I"⟩
abbrev cX0_gotOf : ByteArray := prog_2_method_11_code
def yX0_gotOf : MethodName := ⟨RX0, "gotOf", "(I)I"⟩
abbrev cX0_reasonOf : ByteArray := prog_2_method_12_code
def yX0_reasonOf : MethodName := ⟨RX0, "reasonOf", "(I)I"⟩
abbrev cX0_monthOf : ByteArray := prog_2_method_13_code
def yX0_monthOf : MethodName := ⟨RX0, "monthOf", "(I)I"⟩
abbrev cX0_followedBy : ByteArray := prog_2_method_14_code
def yX0_followedBy : MethodName := ⟨RX0, "followedBy", "(I)I"⟩
abbrev cX0_changeStage : ByteArray := prog_2_method_15_code
def yX0_changeStage : MethodName := ⟨RX0, "changeStage", "(II)V"⟩
abbrev cX0_give : ByteArray := prog_2_method_16_code
def yX0_give : MethodName := ⟨RX0, "give", "(III)V"⟩
abbrev cX0_noteDecision : ByteArray := prog_2_method_17_code
def yX0_noteDecision : MethodName := ⟨RX0, "noteDecision", "(IIII)V"⟩
abbrev cX0_inStage : ByteArray := prog_2_method_18_code
def yX0_inStage : MethodName := ⟨RX0, "inStage", "(I)I"⟩
abbrev cX0_ofKind : ByteArray := prog_2_method_19_code
def yX0_ofKind : MethodName := ⟨RX0, "ofKind", "(I)I"⟩
abbrev cX0_having : ByteArray := prog_2_method_20_code
def yX0_having : MethodName := ⟨RX0, "having", "(II)I"⟩
abbrev cX0_following : ByteArray := prog_2_method_21_code
def yX0_following : MethodName := ⟨RX0, "following", "(I)I"⟩
abbrev cX0_ofOne : ByteArray := prog_2_method_22_code
def yX0_ofOne : MethodName := ⟨RX0, "ofOne", "(II)I"⟩
abbrev cX0_gotInKind : ByteArray := prog_2_method_23_code
def yX0_gotInKind : MethodName := ⟨RX0, "gotInKind", "(I)I"⟩
abbrev cX0_gotInAll : ByteArray := prog_2_method_24_code
def yX0_gotInAll : MethodName := ⟨RX0, "gotInAll", "()I"⟩
abbrev cX0_unequalPairs : ByteArray := prog_2_method_25_code
def yX0_unequalPairs : MethodName := ⟨RX0, "unequalPairs", "()I"⟩
abbrev cX0_areAlike : ByteArray := prog_2_method_26_code
def yX0_areAlike : MethodName := ⟨RX0, "areAlike", "(II)Z"⟩
def RX1 : String := "AmendsLedger$Menus"
def TX1 : u_T := fun k => match k with
  | 0 => ("AmendsLedger$Menus", "sizes", "[I", true)
  | 1 => ("AmendsLedger$Menus", "costs", "[I", true)
  | 2 => ("AmendsLedger$Menus", "leasts", "[I", true)
  | 3 => ("AmendsLedger$Menus", "mosts", "[I", true)
  | _ => ("AmendsLedger$Menus", "offers", "[I", true)
def tyX1 : Nat → FieldType := fun k => match k with
  | 0 => .array .int
  | 1 => .array .int
  | 2 => .array .int
  | 3 => .array .int
  | _ => .array .int
abbrev wsX10 : List Cond := u_ws RX1 TX1 5
theorem nmX1 : ∀ a, a < 5 → ∀ b, b < 5 → a ≠ b → (TX1 a).2.1 ≠ (TX1 b).2.1 := by decide +kernel
theorem tyX1_ok : ∀ k, k < 5 → parseFieldDescriptor (TX1 k).2.2.1 = some (tyX1 k) := by decide +kernel
abbrev cX1_init : ByteArray := prog_3_method_1_code
def yX1_init : MethodName := ⟨RX1, "<init>", "()V"⟩
abbrev cX1_copyFrom : ByteArray := prog_3_method_2_code
def yX1_copyFrom : MethodName := ⟨RX1, "copyFrom", "(LAmendsLedger$Menus;)V"⟩
abbrev cX1_sizeOf : ByteArray := prog_3_method_3_code
def yX1_sizeOf : MethodName := ⟨RX1, "sizeOf", "(I)I"⟩
abbrev cX1_has : ByteArray := prog_3_method_4_code
def yX1_has : MethodName := ⟨RX1, "has", "(II)Z"⟩
abbrev cX1_costOf : ByteArray := prog_3_method_5_code
def yX1_costOf : MethodName := ⟨RX1, "costOf", "(II)I"⟩
abbrev cX1_leastOf : ByteArray := prog_3_method_6_code
def yX1_leastOf : MethodName := ⟨RX1, "leastOf", "(II)I"⟩
abbrev cX1_mostOf : ByteArray := prog_3_method_7_code
def yX1_mostOf : MethodName := ⟨RX1, "mostOf", "(II)I"⟩
abbrev cX1_isOffered : ByteArray := prog_3_method_8_code
def yX1_isOffered : MethodName := ⟨RX1, "isOffered", "(II)Z"⟩
abbrev cX1_covers : ByteArray := prog_3_method_9_code
def yX1_covers : MethodName := ⟨RX1, "covers", "(III)Z"⟩
abbrev cX1_add : ByteArray := prog_3_method_10_code
def yX1_add : MethodName := ⟨RX1, "add", "(IIII)I"⟩
abbrev cX1_remove : ByteArray := prog_3_method_11_code
def yX1_remove : MethodName := ⟨RX1, "remove", "(II)I"⟩
def RX2 : String := "AmendsLedger$Precedents"
def TX2 : u_T := fun k => match k with
  | 0 => ("AmendsLedger$Precedents", "size", "I", false)
  | 1 => ("AmendsLedger$Precedents", "amendsHeld", "[I", true)
  | 2 => ("AmendsLedger$Precedents", "months", "[I", true)
  | 3 => ("AmendsLedger$Precedents", "setters", "[I", true)
  | _ => ("AmendsLedger$Precedents", "latest", "[I", true)
def tyX2 : Nat → FieldType := fun k => match k with
  | 0 => .int
  | 1 => .array .int
  | 2 => .array .int
  | 3 => .array .int
  | _ => .array .int
abbrev wsX20 : List Cond := u_ws RX2 TX2 5
theorem nmX2 : ∀ a, a < 5 → ∀ b, b < 5 → a ≠ b → (TX2 a).2.1 ≠ (TX2 b).2.1 := by decide +kernel
theorem tyX2_ok : ∀ k, k < 5 → parseFieldDescriptor (TX2 k).2.2.1 = some (tyX2 k) := by decide +kernel
abbrev cX2_init : ByteArray := prog_4_method_1_code
def yX2_init : MethodName := ⟨RX2, "<init>", "()V"⟩
abbrev cX2_copyFrom : ByteArray := prog_4_method_2_code
def yX2_copyFrom : MethodName := ⟨RX2, "copyFrom", "(LAmendsLedger$Precedents;)V"⟩
abbrev cX2_has : ByteArray := prog_4_method_3_code
def yX2_has : MethodName := ⟨RX2, "has", "(I)Z"⟩
abbrev cX2_latestOf : ByteArray := prog_4_method_4_code
def yX2_latestOf : MethodName := ⟨RX2, "latestOf", "(II)I"⟩
abbrev cX2_amendsOf : ByteArray := prog_4_method_5_code
def yX2_amendsOf : MethodName := ⟨RX2, "amendsOf", "(I)I"⟩
abbrev cX2_monthOf : ByteArray := prog_4_method_6_code
def yX2_monthOf : MethodName := ⟨RX2, "monthOf", "(I)I"⟩
abbrev cX2_setterOf : ByteArray := prog_4_method_7_code
def yX2_setterOf : MethodName := ⟨RX2, "setterOf", "(I)I"⟩
abbrev cX2_raise : ByteArray := prog_4_method_8_code
def yX2_raise : MethodName := ⟨RX2, "raise", "(II)V"⟩
abbrev cX2_add : ByteArray := prog_4_method_9_code
def yX2_add : MethodName := ⟨RX2, "add", "(IIIII)I"⟩
def RX3 : String := "AmendsLedger$State"
def TX3 : u_T := fun k => match k with
  | 0 => ("AmendsLedger$State", "menus", "LAmendsLedger$Menus;", true)
  | 1 => ("AmendsLedger$State", "complaints", "LAmendsLedger$Complaints;", true)
  | 2 => ("AmendsLedger$State", "precedents", "LAmendsLedger$Precedents;", true)
  | 3 => ("AmendsLedger$State", "settings", "[I", true)
  | 4 => ("AmendsLedger$State", "bases", "[I", true)
  | 5 => ("AmendsLedger$State", "budgets", "[I", true)
  | 6 => ("AmendsLedger$State", "spent", "[I", true)
  | _ => ("AmendsLedger$State", "month", "I", false)
def tyX3 : Nat → FieldType := fun k => match k with
  | 0 => .object "AmendsLedger$Menus"
  | 1 => .object "AmendsLedger$Complaints"
  | 2 => .object "AmendsLedger$Precedents"
  | 3 => .array .int
  | 4 => .array .int
  | 5 => .array .int
  | 6 => .array .int
  | _ => .int
abbrev wsX30 : List Cond := u_ws RX3 TX3 8
theorem nmX3 : ∀ a, a < 8 → ∀ b, b < 8 → a ≠ b → (TX3 a).2.1 ≠ (TX3 b).2.1 := by decide +kernel
theorem tyX3_ok : ∀ k, k < 8 → parseFieldDescriptor (TX3 k).2.2.1 = some (tyX3 k) := by decide +kernel
abbrev cX3_init : ByteArray := prog_5_method_1_code
def yX3_init : MethodName := ⟨RX3, "<init>", "()V"⟩
abbrev cX3_copyFrom : ByteArray := prog_5_method_2_code
def yX3_copyFrom : MethodName := ⟨RX3, "copyFrom", "(LAmendsLedger$State;)V"⟩
abbrev cX3_settingOf : ByteArray := prog_5_method_3_code
def yX3_settingOf : MethodName := ⟨RX3, "settingOf", "(I)I"⟩
abbrev cX3_baseOf : ByteArray := prog_5_method_4_code
def yX3_baseOf : MethodName := ⟨RX3, "baseOf", "(I)I"⟩
abbrev cX3_budgetOf : ByteArray := prog_5_method_5_code
def yX3_budgetOf : MethodName := ⟨RX3, "budgetOf", "(I)I"⟩
abbrev cX3_spentOf : ByteArray := prog_5_method_6_code
def yX3_spentOf : MethodName := ⟨RX3, "spentOf", "(I)I"⟩
abbrev cX3_leftOf : ByteArray := prog_5_method_7_code
def yX3_leftOf : MethodName := ⟨RX3, "leftOf", "(I)I"⟩
abbrev cX3_changeSetting : ByteArray := prog_5_method_8_code
def yX3_changeSetting : MethodName := ⟨RX3, "changeSetting", "(II)I"⟩
abbrev cX3_changeBase : ByteArray := prog_5_method_9_code
def yX3_changeBase : MethodName := ⟨RX3, "changeBase", "(II)I"⟩
abbrev cX3_isBinding : ByteArray := prog_5_method_10_code
def yX3_isBinding : MethodName := ⟨RX3, "isBinding", "(II)Z"⟩
abbrev cX3_bindingFor : ByteArray := prog_5_method_11_code
def yX3_bindingFor : MethodName := ⟨RX3, "bindingFor", "(I)I"⟩
abbrev cX3_tieOf : ByteArray := prog_5_method_12_code
def yX3_tieOf : MethodName := ⟨RX3, "tieOf", "(I)I"⟩
abbrev cX3_departing : ByteArray := prog_5_method_13_code
def yX3_departing : MethodName := ⟨RX3, "departing", "()I"⟩
abbrev cX3_againstDecision : ByteArray := prog_5_method_14_code
def yX3_againstDecision : MethodName := ⟨RX3, "againstDecision", "(III)I"⟩
abbrev cX3_makeDecision : ByteArray := prog_5_method_15_code
def yX3_makeDecision : MethodName := ⟨RX3, "makeDecision", "(III)I"⟩
abbrev cX3_hand : ByteArray := prog_5_method_16_code
def yX3_hand : MethodName := ⟨RX3, "hand", "(II)V"⟩
abbrev cX3_canBeAppealed : ByteArray := prog_5_method_17_code
def yX3_canBeAppealed : MethodName := ⟨RX3, "canBeAppealed", "(I)Z"⟩
abbrev cX3_againstJudgement : ByteArray := prog_5_method_18_code
def yX3_againstJudgement : MethodName := ⟨RX3, "againstJudgement", "(II)I"⟩
abbrev cX3_makeJudgement : ByteArray := prog_5_method_19_code
def yX3_makeJudgement : MethodName := ⟨RX3, "makeJudgement", "(II)I"⟩
abbrev cX3_owedTo : ByteArray := prog_5_method_20_code
def yX3_owedTo : MethodName := ⟨RX3, "owedTo", "(I)I"⟩
abbrev cX3_topUp : ByteArray := prog_5_method_21_code
def yX3_topUp : MethodName := ⟨RX3, "topUp", "(I)I"⟩
abbrev cX3_waiting : ByteArray := prog_5_method_22_code
def yX3_waiting : MethodName := ⟨RX3, "waiting", "()I"⟩
abbrev cX3_owedInKind : ByteArray := prog_5_method_23_code
def yX3_owedInKind : MethodName := ⟨RX3, "owedInKind", "(I)I"⟩
abbrev cX3_owedInAll : ByteArray := prog_5_method_24_code
def yX3_owedInAll : MethodName := ⟨RX3, "owedInAll", "()I"⟩
abbrev cX3_turnMonth : ByteArray := prog_5_method_25_code
def yX3_turnMonth : MethodName := ⟨RX3, "turnMonth", "()I"⟩
abbrev cX3_ofComplaint : ByteArray := prog_5_method_26_code
def yX3_ofComplaint : MethodName := ⟨RX3, "ofComplaint", "(II)I"⟩
def RX4 : String := "AmendsLedger"
def TX4 : u_T := fun k => match k with
  | 0 => ("AmendsLedger", "now", "LAmendsLedger$State;", true)
  | 1 => ("AmendsLedger", "trial", "LAmendsLedger$State;", true)
  | 2 => ("AmendsLedger", "saved", "[LAmendsLedger$State;", true)
  | 3 => ("AmendsLedger", "savedCount", "I", false)
  | 4 => ("AmendsLedger", "savedNext", "I", false)
  | 5 => ("AmendsLedger", "buffer", "[I", true)
  | _ => ("AmendsLedger", "length", "I", false)
def tyX4 : Nat → FieldType := fun k => match k with
  | 0 => .object "AmendsLedger$State"
  | 1 => .object "AmendsLedger$State"
  | 2 => .array (.object "AmendsLedger$State")
  | 3 => .int
  | 4 => .int
  | 5 => .array .int
  | _ => .int
abbrev wsX40 : List Cond := u_ws RX4 TX4 7
theorem nmX4 : ∀ a, a < 7 → ∀ b, b < 7 → a ≠ b → (TX4 a).2.1 ≠ (TX4 b).2.1 := by decide +kernel
theorem tyX4_ok : ∀ k, k < 7 → parseFieldDescriptor (TX4 k).2.2.1 = some (tyX4 k) := by decide +kernel
abbrev cX4_init : ByteArray := prog_1_method_1_code
def yX4_init : MethodName := ⟨RX4, "<init>", "()V"⟩
abbrev cX4_offer : ByteArray := prog_1_method_2_code
def yX4_offer : MethodName := ⟨RX4, "offer", "(IIII)I"⟩
abbrev cX4_takeOff : ByteArray := prog_1_method_3_code
def yX4_takeOff : MethodName := ⟨RX4, "takeOff", "(II)I"⟩
abbrev cX4_base : ByteArray := prog_1_method_4_code
def yX4_base : MethodName := ⟨RX4, "base", "(II)I"⟩
abbrev cX4_set : ByteArray := prog_1_method_5_code
def yX4_set : MethodName := ⟨RX4, "set", "(II)I"⟩
abbrev cX4_complain : ByteArray := prog_1_method_6_code
def yX4_complain : MethodName := ⟨RX4, "complain", "(III)I"⟩
abbrev cX4_decide : ByteArray := prog_1_method_7_code
def yX4_decide : MethodName := ⟨RX4, "decide", "(III)I"⟩
abbrev cX4_appeal : ByteArray := prog_1_method_8_code
def yX4_appeal : MethodName := ⟨RX4, "appeal", "(I)I"⟩
abbrev cX4_judge : ByteArray := prog_1_method_9_code
def yX4_judge : MethodName := ⟨RX4, "judge", "(II)I"⟩
abbrev cX4_closeMonth : ByteArray := prog_1_method_10_code
def yX4_closeMonth : MethodName := ⟨RX4, "closeMonth", "()I"⟩
abbrev cX4_append : ByteArray := prog_1_method_11_code
def yX4_append : MethodName := ⟨RX4, "append", "(I)I"⟩
abbrev cX4_clearBuffer : ByteArray := prog_1_method_12_code
def yX4_clearBuffer : MethodName := ⟨RX4, "clearBuffer", "()I"⟩
abbrev cX4_firstError : ByteArray := prog_1_method_13_code
def yX4_firstError : MethodName := ⟨RX4, "firstError", "()I"⟩
abbrev cX4_complainAll : ByteArray := prog_1_method_14_code
def yX4_complainAll : MethodName := ⟨RX4, "complainAll", "()I"⟩
abbrev cX4_undo : ByteArray := prog_1_method_15_code
def yX4_undo : MethodName := ⟨RX4, "undo", "()I"⟩
abbrev cX4_complaint : ByteArray := prog_1_method_16_code
def yX4_complaint : MethodName := ⟨RX4, "complaint", "(II)I"⟩
abbrev cX4_amends : ByteArray := prog_1_method_17_code
def yX4_amends : MethodName := ⟨RX4, "amends", "(III)I"⟩
abbrev cX4_precedent : ByteArray := prog_1_method_18_code
def yX4_precedent : MethodName := ⟨RX4, "precedent", "(III)I"⟩
abbrev cX4_kind : ByteArray := prog_1_method_19_code
def yX4_kind : MethodName := ⟨RX4, "kind", "(II)I"⟩
abbrev cX4_count : ByteArray := prog_1_method_20_code
def yX4_count : MethodName := ⟨RX4, "count", "(I)I"⟩
abbrev cX4_setting : ByteArray := prog_1_method_21_code
def yX4_setting : MethodName := ⟨RX4, "setting", "(I)I"⟩
abbrev cX4_ofCustomer : ByteArray := prog_1_method_22_code
def yX4_ofCustomer : MethodName := ⟨RX4, "ofCustomer", "(II)I"⟩
abbrev cX4_whyNot : ByteArray := prog_1_method_23_code
def yX4_whyNot : MethodName := ⟨RX4, "whyNot", "(III)I"⟩
abbrev cX4_fair : ByteArray := prog_1_method_24_code
def yX4_fair : MethodName := ⟨RX4, "fair", "(I)I"⟩
abbrev cX4_ifJudged : ByteArray := prog_1_method_25_code
def yX4_ifJudged : MethodName := ⟨RX4, "ifJudged", "(III)I"⟩
abbrev cX4_monthsToEqual : ByteArray := prog_1_method_26_code
def yX4_monthsToEqual : MethodName := ⟨RX4, "monthsToEqual", "()I"⟩
abbrev cX4_followShare : ByteArray := prog_1_method_27_code
def yX4_followShare : MethodName := ⟨RX4, "followShare", "()D"⟩
abbrev cX4_digest : ByteArray := prog_1_method_28_code
def yX4_digest : MethodName := ⟨RX4, "digest", "()J"⟩
abbrev cX4_withKind : ByteArray := prog_1_method_29_code
def yX4_withKind : MethodName := ⟨RX4, "withKind", "(JI)J"⟩
abbrev cX4_withComplaint : ByteArray := prog_1_method_30_code
def yX4_withComplaint : MethodName := ⟨RX4, "withComplaint", "(JI)J"⟩
abbrev cX4_withBuffer : ByteArray := prog_1_method_31_code
def yX4_withBuffer : MethodName := ⟨RX4, "withBuffer", "(J)J"⟩
abbrev cX4_bitsOf : ByteArray := prog_1_method_32_code
def yX4_bitsOf : MethodName := ⟨RX4, "bitsOf", "(D)J"⟩
abbrev cX4_codeAt : ByteArray := prog_1_method_33_code
def yX4_codeAt : MethodName := ⟨RX4, "codeAt", "(I)I"⟩
abbrev cX4_digitAt : ByteArray := prog_1_method_34_code
def yX4_digitAt : MethodName := ⟨RX4, "digitAt", "(I)I"⟩
abbrev cX4_fitsPlace : ByteArray := prog_1_method_35_code
def yX4_fitsPlace : MethodName := ⟨RX4, "fitsPlace", "(II)Z"⟩
abbrev cX4_save : ByteArray := prog_1_method_36_code
def yX4_save : MethodName := ⟨RX4, "save", "()V"⟩
abbrev cX4_savedAt : ByteArray := prog_1_method_37_code
def yX4_savedAt : MethodName := ⟨RX4, "savedAt", "(I)LAmendsLedger$State;"⟩
abbrev cX4_requireIndex : ByteArray := prog_1_method_38_code
def yX4_requireIndex : MethodName := ⟨RX4, "requireIndex", "(Z)V"⟩
abbrev cX4_requireArgument : ByteArray := prog_1_method_39_code
def yX4_requireArgument : MethodName := ⟨RX4, "requireArgument", "(Z)V"⟩
abbrev cX4_requireState : ByteArray := prog_1_method_40_code
def yX4_requireState : MethodName := ⟨RX4, "requireState", "(Z)V"⟩
abbrev cX4_isWithin : ByteArray := prog_1_method_41_code
def yX4_isWithin : MethodName := ⟨RX4, "isWithin", "(III)Z"⟩
abbrev cX4_isKind : ByteArray := prog_1_method_42_code
def yX4_isKind : MethodName := ⟨RX4, "isKind", "(I)Z"⟩
abbrev cX4_isGroup : ByteArray := prog_1_method_43_code
def yX4_isGroup : MethodName := ⟨RX4, "isGroup", "(I)Z"⟩
abbrev cX4_isCustomer : ByteArray := prog_1_method_44_code
def yX4_isCustomer : MethodName := ⟨RX4, "isCustomer", "(I)Z"⟩
abbrev cX4_isSetting : ByteArray := prog_1_method_45_code
def yX4_isSetting : MethodName := ⟨RX4, "isSetting", "(I)Z"⟩
abbrev cX4_isValueOf : ByteArray := prog_1_method_46_code
def yX4_isValueOf : MethodName := ⟨RX4, "isValueOf", "(II)Z"⟩
abbrev cX4_copyAll : ByteArray := prog_1_method_47_code
def yX4_copyAll : MethodName := ⟨RX4, "copyAll", "([I[I)V"⟩
def RX5 : String := "AmendsLedgerModel"
def TX5 : u_T := fun k => match k with
  | 0 => ("AmendsLedgerModel", "z", "[I", true)
  | 1 => ("AmendsLedgerModel", "rows", "[I", true)
  | 2 => ("AmendsLedgerModel", "aside", "[I", true)
  | 3 => ("AmendsLedgerModel", "savedMany", "I", false)
  | 4 => ("AmendsLedgerModel", "buffer", "[I", true)
  | 5 => ("AmendsLedgerModel", "bufferMany", "I", false)
  | 6 => ("AmendsLedgerModel", "thrown", "I", false)
  | 7 => ("AmendsLedgerModel", "toppedUp", "I", false)
  | 8 => ("AmendsLedgerModel", "place", "I", false)
  | 9 => ("AmendsLedgerModel", "told", "I", false)
  | 10 => ("AmendsLedgerModel", "read", "[I", true)
  | _ => ("AmendsLedgerModel", "h", "J", false)
def tyX5 : Nat → FieldType := fun k => match k with
  | 0 => .array .int
  | 1 => .array .int
  | 2 => .array .int
  | 3 => .int
  | 4 => .array .int
  | 5 => .int
  | 6 => .int
  | 7 => .int
  | 8 => .int
  | 9 => .int
  | 10 => .array .int
  | _ => .long
abbrev wsX50 : List Cond := u_ws RX5 TX5 12
theorem nmX5 : ∀ a, a < 12 → ∀ b, b < 12 → a ≠ b → (TX5 a).2.1 ≠ (TX5 b).2.1 := by decide +kernel
theorem tyX5_ok : ∀ k, k < 12 → parseFieldDescriptor (TX5 k).2.2.1 = some (tyX5 k) := by decide +kernel
abbrev cX5_init : ByteArray := prog_7_method_1_code
def yX5_init : MethodName := ⟨RX5, "<init>", "()V"⟩
abbrev cX5_thrown : ByteArray := prog_7_method_2_code
def yX5_thrown : MethodName := ⟨RX5, "thrown", "()I"⟩
abbrev cX5_fails : ByteArray := prog_7_method_3_code
def yX5_fails : MethodName := ⟨RX5, "fails", "(I)I"⟩
abbrev cX5_in : ByteArray := prog_7_method_4_code
def yX5_in : MethodName := ⟨RX5, "in", "(III)Z"⟩
abbrev cX5_save : ByteArray := prog_7_method_5_code
def yX5_save : MethodName := ⟨RX5, "save", "()V"⟩
abbrev cX5_putAside : ByteArray := prog_7_method_6_code
def yX5_putAside : MethodName := ⟨RX5, "putAside", "()V"⟩
abbrev cX5_putBack : ByteArray := prog_7_method_7_code
def yX5_putBack : MethodName := ⟨RX5, "putBack", "()V"⟩
abbrev cX5_at : ByteArray := prog_7_method_8_code
def yX5_at : MethodName := ⟨RX5, "at", "(I)I"⟩
abbrev cX5_menuAt : ByteArray := prog_7_method_9_code
def yX5_menuAt : MethodName := ⟨RX5, "menuAt", "(II)I"⟩
abbrev cX5_of : ByteArray := prog_7_method_10_code
def yX5_of : MethodName := ⟨RX5, "of", "(I)I"⟩
abbrev cX5_isKind : ByteArray := prog_7_method_11_code
def yX5_isKind : MethodName := ⟨RX5, "isKind", "(I)Z"⟩
abbrev cX5_isAmends : ByteArray := prog_7_method_12_code
def yX5_isAmends : MethodName := ⟨RX5, "isAmends", "(II)Z"⟩
abbrev cX5_isComplaint : ByteArray := prog_7_method_13_code
def yX5_isComplaint : MethodName := ⟨RX5, "isComplaint", "(I)Z"⟩
abbrev cX5_group : ByteArray := prog_7_method_14_code
def yX5_group : MethodName := ⟨RX5, "group", "(I)I"⟩
abbrev cX5_left : ByteArray := prog_7_method_15_code
def yX5_left : MethodName := ⟨RX5, "left", "(I)I"⟩
abbrev cX5_isOffered : ByteArray := prog_7_method_16_code
def yX5_isOffered : MethodName := ⟨RX5, "isOffered", "(II)Z"⟩
abbrev cX5_cost : ByteArray := prog_7_method_17_code
def yX5_cost : MethodName := ⟨RX5, "cost", "(II)I"⟩
abbrev cX5_latest : ByteArray := prog_7_method_18_code
def yX5_latest : MethodName := ⟨RX5, "latest", "(II)I"⟩
abbrev cX5_binds : ByteArray := prog_7_method_19_code
def yX5_binds : MethodName := ⟨RX5, "binds", "(II)Z"⟩
abbrev cX5_waitsFor : ByteArray := prog_7_method_20_code
def yX5_waitsFor : MethodName := ⟨RX5, "waitsFor", "(I)I"⟩
abbrev cX5_offer : ByteArray := prog_7_method_21_code
def yX5_offer : MethodName := ⟨RX5, "offer", "(IIII)I"⟩
abbrev cX5_offered : ByteArray := prog_7_method_22_code
def yX5_offered : MethodName := ⟨RX5, "offered", "(I)I"⟩
abbrev cX5_takeOff : ByteArray := prog_7_method_23_code
def yX5_takeOff : MethodName := ⟨RX5, "takeOff", "(II)I"⟩
abbrev cX5_base : ByteArray := prog_7_method_24_code
def yX5_base : MethodName := ⟨RX5, "base", "(II)I"⟩
abbrev cX5_maySet : ByteArray := prog_7_method_25_code
def yX5_maySet : MethodName := ⟨RX5, "maySet", "(II)Z"⟩
abbrev cX5_set : ByteArray := prog_7_method_26_code
def yX5_set : MethodName := ⟨RX5, "set", "(II)I"⟩
abbrev cX5_complainNow : ByteArray := prog_7_method_27_code
def yX5_complainNow : MethodName := ⟨RX5, "complainNow", "(III)V"⟩
abbrev cX5_complain : ByteArray := prog_7_method_28_code
def yX5_complain : MethodName := ⟨RX5, "complain", "(III)I"⟩
abbrev cX5_fits : ByteArray := prog_7_method_29_code
def yX5_fits : MethodName := ⟨RX5, "fits", "(II)Z"⟩
abbrev cX5_whyDecided : ByteArray := prog_7_method_30_code
def yX5_whyDecided : MethodName := ⟨RX5, "whyDecided", "(III)I"⟩
abbrev cX5_whyJudged : ByteArray := prog_7_method_31_code
def yX5_whyJudged : MethodName := ⟨RX5, "whyJudged", "(II)I"⟩
abbrev cX5_why : ByteArray := prog_7_method_32_code
def yX5_why : MethodName := ⟨RX5, "why", "(III)I"⟩
abbrev cX5_give : ByteArray := prog_7_method_33_code
def yX5_give : MethodName := ⟨RX5, "give", "(II)V"⟩
abbrev cX5_setPrecedent : ByteArray := prog_7_method_34_code
def yX5_setPrecedent : MethodName := ⟨RX5, "setPrecedent", "(II)I"⟩
abbrev cX5_decide : ByteArray := prog_7_method_35_code
def yX5_decide : MethodName := ⟨RX5, "decide", "(III)I"⟩
abbrev cX5_staged : ByteArray := prog_7_method_36_code
def yX5_staged : MethodName := ⟨RX5, "staged", "(I)I"⟩
abbrev cX5_appeal : ByteArray := prog_7_method_37_code
def yX5_appeal : MethodName := ⟨RX5, "appeal", "(I)I"⟩
abbrev cX5_topUps : ByteArray := prog_7_method_38_code
def yX5_topUps : MethodName := ⟨RX5, "topUps", "(I)I"⟩
abbrev cX5_judgeNow : ByteArray := prog_7_method_39_code
def yX5_judgeNow : MethodName := ⟨RX5, "judgeNow", "(II)I"⟩
abbrev cX5_judge : ByteArray := prog_7_method_40_code
def yX5_judge : MethodName := ⟨RX5, "judge", "(II)I"⟩
abbrev cX5_closeNow : ByteArray := prog_7_method_41_code
def yX5_closeNow : MethodName := ⟨RX5, "closeNow", "()I"⟩
abbrev cX5_closeMonth : ByteArray := prog_7_method_42_code
def yX5_closeMonth : MethodName := ⟨RX5, "closeMonth", "()I"⟩
abbrev cX5_append : ByteArray := prog_7_method_43_code
def yX5_append : MethodName := ⟨RX5, "append", "(I)I"⟩
abbrev cX5_clearBuffer : ByteArray := prog_7_method_44_code
def yX5_clearBuffer : MethodName := ⟨RX5, "clearBuffer", "()I"⟩
abbrev cX5_takes : ByteArray := prog_7_method_45_code
def yX5_takes : MethodName := ⟨RX5, "takes", "(I)Z"⟩
abbrev cX5_digit : ByteArray := prog_7_method_46_code
def yX5_digit : MethodName := ⟨RX5, "digit", "(III)Z"⟩
abbrev cX5_isOne : ByteArray := prog_7_method_47_code
def yX5_isOne : MethodName := ⟨RX5, "isOne", "()Z"⟩
abbrev cX5_isText : ByteArray := prog_7_method_48_code
def yX5_isText : MethodName := ⟨RX5, "isText", "()Z"⟩
abbrev cX5_firstError : ByteArray := prog_7_method_49_code
def yX5_firstError : MethodName := ⟨RX5, "firstError", "()I"⟩
abbrev cX5_complainAll : ByteArray := prog_7_method_50_code
def yX5_complainAll : MethodName := ⟨RX5, "complainAll", "()I"⟩
abbrev cX5_undo : ByteArray := prog_7_method_51_code
def yX5_undo : MethodName := ⟨RX5, "undo", "()I"⟩
abbrev cX5_complaintOf : ByteArray := prog_7_method_52_code
def yX5_complaintOf : MethodName := ⟨RX5, "complaintOf", "(II)I"⟩
abbrev cX5_complaint : ByteArray := prog_7_method_53_code
def yX5_complaint : MethodName := ⟨RX5, "complaint", "(II)I"⟩
abbrev cX5_having : ByteArray := prog_7_method_54_code
def yX5_having : MethodName := ⟨RX5, "having", "(II)I"⟩
abbrev cX5_amendsOf : ByteArray := prog_7_method_55_code
def yX5_amendsOf : MethodName := ⟨RX5, "amendsOf", "(III)I"⟩
abbrev cX5_amends : ByteArray := prog_7_method_56_code
def yX5_amends : MethodName := ⟨RX5, "amends", "(III)I"⟩
abbrev cX5_following : ByteArray := prog_7_method_57_code
def yX5_following : MethodName := ⟨RX5, "following", "(I)I"⟩
abbrev cX5_precedentOf : ByteArray := prog_7_method_58_code
def yX5_precedentOf : MethodName := ⟨RX5, "precedentOf", "(III)I"⟩
abbrev cX5_precedent : ByteArray := prog_7_method_59_code
def yX5_precedent : MethodName := ⟨RX5, "precedent", "(III)I"⟩
abbrev cX5_ofComplaints : ByteArray := prog_7_method_60_code
def yX5_ofComplaints : MethodName := ⟨RX5, "ofComplaints", "(II)I"⟩
abbrev cX5_kindOf : ByteArray := prog_7_method_61_code
def yX5_kindOf : MethodName := ⟨RX5, "kindOf", "(II)I"⟩
abbrev cX5_kind : ByteArray := prog_7_method_62_code
def yX5_kind : MethodName := ⟨RX5, "kind", "(II)I"⟩
abbrev cX5_departing : ByteArray := prog_7_method_63_code
def yX5_departing : MethodName := ⟨RX5, "departing", "()I"⟩
abbrev cX5_unequal : ByteArray := prog_7_method_64_code
def yX5_unequal : MethodName := ⟨RX5, "unequal", "()I"⟩
abbrev cX5_counted : ByteArray := prog_7_method_65_code
def yX5_counted : MethodName := ⟨RX5, "counted", "(I)I"⟩
abbrev cX5_count : ByteArray := prog_7_method_66_code
def yX5_count : MethodName := ⟨RX5, "count", "(I)I"⟩
abbrev cX5_setting : ByteArray := prog_7_method_67_code
def yX5_setting : MethodName := ⟨RX5, "setting", "(I)I"⟩
abbrev cX5_customerAt : ByteArray := prog_7_method_68_code
def yX5_customerAt : MethodName := ⟨RX5, "customerAt", "(II)I"⟩
abbrev cX5_ofCustomer : ByteArray := prog_7_method_69_code
def yX5_ofCustomer : MethodName := ⟨RX5, "ofCustomer", "(II)I"⟩
abbrev cX5_whyNot : ByteArray := prog_7_method_70_code
def yX5_whyNot : MethodName := ⟨RX5, "whyNot", "(III)I"⟩
abbrev cX5_fairOf : ByteArray := prog_7_method_71_code
def yX5_fairOf : MethodName := ⟨RX5, "fairOf", "(I)I"⟩
abbrev cX5_fair : ByteArray := prog_7_method_72_code
def yX5_fair : MethodName := ⟨RX5, "fair", "(I)I"⟩
abbrev cX5_judgedOf : ByteArray := prog_7_method_73_code
def yX5_judgedOf : MethodName := ⟨RX5, "judgedOf", "(III)I"⟩
abbrev cX5_ifJudged : ByteArray := prog_7_method_74_code
def yX5_ifJudged : MethodName := ⟨RX5, "ifJudged", "(III)I"⟩
abbrev cX5_monthsOf : ByteArray := prog_7_method_75_code
def yX5_monthsOf : MethodName := ⟨RX5, "monthsOf", "()I"⟩
abbrev cX5_monthsToEqual : ByteArray := prog_7_method_76_code
def yX5_monthsToEqual : MethodName := ⟨RX5, "monthsToEqual", "()I"⟩
abbrev cX5_shareOf : ByteArray := prog_7_method_77_code
def yX5_shareOf : MethodName := ⟨RX5, "shareOf", "()D"⟩
abbrev cX5_followShare : ByteArray := prog_7_method_78_code
def yX5_followShare : MethodName := ⟨RX5, "followShare", "()D"⟩
abbrev cX5_mix : ByteArray := prog_7_method_79_code
def yX5_mix : MethodName := ⟨RX5, "mix", "(J)V"⟩
abbrev cX5_mixKind : ByteArray := prog_7_method_80_code
def yX5_mixKind : MethodName := ⟨RX5, "mixKind", "(I)V"⟩
abbrev cX5_mixComplaint : ByteArray := prog_7_method_81_code
def yX5_mixComplaint : MethodName := ⟨RX5, "mixComplaint", "(I)V"⟩
abbrev cX5_digest : ByteArray := prog_7_method_82_code
def yX5_digest : MethodName := ⟨RX5, "digest", "()J"⟩
def RJx145de : String := "java/io/Serializable"
def TJx145de : u_T := fun k => match k with
  | _ => ("", "", "", false)
def tyJx145de : Nat → FieldType := fun k => match k with
  | _ => .int
abbrev wsJx145de0 : List Cond := u_ws RJx145de TJx145de 0
theorem nmJx145de : ∀ a, a < 0 → ∀ b, b < 0 → a ≠ b → (TJx145de a).2.1 ≠ (TJx145de b).2.1 := by decide +kernel
theorem tyJx145de_ok : ∀ k, k < 0 → parseFieldDescriptor (TJx145de k).2.2.1 = some (tyJx145de k) := by decide +kernel
def RJxb160c : String := "java/lang/Comparable"
def TJxb160c : u_T := fun k => match k with
  | _ => ("", "", "", false)
def tyJxb160c : Nat → FieldType := fun k => match k with
  | _ => .int
abbrev wsJxb160c0 : List Cond := u_ws RJxb160c TJxb160c 0
theorem nmJxb160c : ∀ a, a < 0 → ∀ b, b < 0 → a ≠ b → (TJxb160c a).2.1 ≠ (TJxb160c b).2.1 := by decide +kernel
theorem tyJxb160c_ok : ∀ k, k < 0 → parseFieldDescriptor (TJxb160c k).2.2.1 = some (tyJxb160c k) := by decide +kernel
def RJxe99ae : String := "java/lang/Double"
def TJxe99ae : u_T := fun k => match k with
  | _ => ("", "", "", false)
def tyJxe99ae : Nat → FieldType := fun k => match k with
  | _ => .int
abbrev wsJxe99ae0 : List Cond := u_ws RJxe99ae TJxe99ae 0
theorem nmJxe99ae : ∀ a, a < 0 → ∀ b, b < 0 → a ≠ b → (TJxe99ae a).2.1 ≠ (TJxe99ae b).2.1 := by decide +kernel
theorem tyJxe99ae_ok : ∀ k, k < 0 → parseFieldDescriptor (TJxe99ae k).2.2.1 = some (tyJxe99ae k) := by decide +kernel
abbrev cJxe99ae_isNaN_b9ae7 : ByteArray := prog_8_method_6_code
def yJxe99ae_isNaN_b9ae7 : MethodName := ⟨RJxe99ae, "isNaN", "(D)Z"⟩
abbrev cJxe99ae_doubleToLongBits_ccdee : ByteArray := prog_8_method_23_code
def yJxe99ae_doubleToLongBits_ccdee : MethodName := ⟨RJxe99ae, "doubleToLongBits", "(D)J"⟩
def RJ9 : String := "java/lang/Math"
def TJ9 : u_T := fun k => match k with
  | _ => ("", "", "", false)
def tyJ9 : Nat → FieldType := fun k => match k with
  | _ => .int
abbrev wsJ90 : List Cond := u_ws RJ9 TJ9 0
theorem nmJ9 : ∀ a, a < 0 → ∀ b, b < 0 → a ≠ b → (TJ9 a).2.1 ≠ (TJ9 b).2.1 := by decide +kernel
theorem tyJ9_ok : ∀ k, k < 0 → parseFieldDescriptor (TJ9 k).2.2.1 = some (tyJ9 k) := by decide +kernel
abbrev cJ9_max_7cf53 : ByteArray := prog_13_method_65_code
def yJ9_max_7cf53 : MethodName := ⟨RJ9, "max", "(II)I"⟩
abbrev cJ9_min_7cf53 : ByteArray := prog_13_method_69_code
def yJ9_min_7cf53 : MethodName := ⟨RJ9, "min", "(II)I"⟩
def RJxd2413 : String := "java/lang/Number"
def TJxd2413 : u_T := fun k => match k with
  | _ => ("", "", "", false)
def tyJxd2413 : Nat → FieldType := fun k => match k with
  | _ => .int
abbrev wsJxd24130 : List Cond := u_ws RJxd2413 TJxd2413 0
theorem nmJxd2413 : ∀ a, a < 0 → ∀ b, b < 0 → a ≠ b → (TJxd2413 a).2.1 ≠ (TJxd2413 b).2.1 := by decide +kernel
theorem tyJxd2413_ok : ∀ k, k < 0 → parseFieldDescriptor (TJxd2413 k).2.2.1 = some (tyJxd2413 k) := by decide +kernel
def RJ10 : String := "java/lang/System"
def TJ10 : u_T := fun k => match k with
  | _ => ("", "", "", false)
def tyJ10 : Nat → FieldType := fun k => match k with
  | _ => .int
abbrev wsJ100 : List Cond := u_ws RJ10 TJ10 0
theorem nmJ10 : ∀ a, a < 0 → ∀ b, b < 0 → a ≠ b → (TJ10 a).2.1 ≠ (TJ10 b).2.1 := by decide +kernel
theorem tyJ10_ok : ∀ k, k < 0 → parseFieldDescriptor (TJ10 k).2.2.1 = some (tyJ10 k) := by decide +kernel
def RJxfd54e : String := "java/lang/constant/Constable"
def TJxfd54e : u_T := fun k => match k with
  | _ => ("", "", "", false)
def tyJxfd54e : Nat → FieldType := fun k => match k with
  | _ => .int
abbrev wsJxfd54e0 : List Cond := u_ws RJxfd54e TJxfd54e 0
theorem nmJxfd54e : ∀ a, a < 0 → ∀ b, b < 0 → a ≠ b → (TJxfd54e a).2.1 ≠ (TJxfd54e b).2.1 := by decide +kernel
theorem tyJxfd54e_ok : ∀ k, k < 0 → parseFieldDescriptor (TJxfd54e k).2.2.1 = some (tyJxfd54e k) := by decide +kernel
def RJx3cf43 : String := "java/lang/constant/ConstantDesc"
def TJx3cf43 : u_T := fun k => match k with
  | _ => ("", "", "", false)
def tyJx3cf43 : Nat → FieldType := fun k => match k with
  | _ => .int
abbrev wsJx3cf430 : List Cond := u_ws RJx3cf43 TJx3cf43 0
theorem nmJx3cf43 : ∀ a, a < 0 → ∀ b, b < 0 → a ≠ b → (TJx3cf43 a).2.1 ≠ (TJx3cf43 b).2.1 := by decide +kernel
theorem tyJx3cf43_ok : ∀ k, k < 0 → parseFieldDescriptor (TJx3cf43 k).2.2.1 = some (tyJx3cf43 k) := by decide +kernel
def RJ7 : String := "java/util/Arrays"
def TJ7 : u_T := fun k => match k with
  | _ => ("", "", "", false)
def tyJ7 : Nat → FieldType := fun k => match k with
  | _ => .int
abbrev wsJ70 : List Cond := u_ws RJ7 TJ7 0
theorem nmJ7 : ∀ a, a < 0 → ∀ b, b < 0 → a ≠ b → (TJ7 a).2.1 ≠ (TJ7 b).2.1 := by decide +kernel
theorem tyJ7_ok : ∀ k, k < 0 → parseFieldDescriptor (TJ7 k).2.2.1 = some (tyJ7 k) := by decide +kernel
abbrev cJ7_fill_53178 : ByteArray := prog_18_method_103_code
def yJ7_fill_53178 : MethodName := ⟨RJ7, "fill", "([II)V"⟩
def RL : String := "AmendsLedgerLaw"
abbrev cL_offer : ByteArray := method_3_code
def yL_offer : MethodName := ⟨RL, "offer", "(LAmendsLedger;IIII[J)I"⟩
abbrev cL_takeOff : ByteArray := method_4_code
def yL_takeOff : MethodName := ⟨RL, "takeOff", "(LAmendsLedger;II[J)I"⟩
abbrev cL_base : ByteArray := method_5_code
def yL_base : MethodName := ⟨RL, "base", "(LAmendsLedger;II[J)I"⟩
abbrev cL_set : ByteArray := method_6_code
def yL_set : MethodName := ⟨RL, "set", "(LAmendsLedger;II[J)I"⟩
abbrev cL_complain : ByteArray := method_7_code
def yL_complain : MethodName := ⟨RL, "complain", "(LAmendsLedger;III[J)I"⟩
abbrev cL_decide : ByteArray := method_8_code
def yL_decide : MethodName := ⟨RL, "decide", "(LAmendsLedger;III[J)I"⟩
abbrev cL_appeal : ByteArray := method_9_code
def yL_appeal : MethodName := ⟨RL, "appeal", "(LAmendsLedger;I[J)I"⟩
abbrev cL_judge : ByteArray := method_10_code
def yL_judge : MethodName := ⟨RL, "judge", "(LAmendsLedger;II[J)I"⟩
abbrev cL_closeMonth : ByteArray := method_11_code
def yL_closeMonth : MethodName := ⟨RL, "closeMonth", "(LAmendsLedger;[J)I"⟩
abbrev cL_append : ByteArray := method_12_code
def yL_append : MethodName := ⟨RL, "append", "(LAmendsLedger;I[J)I"⟩
abbrev cL_complainAll : ByteArray := method_13_code
def yL_complainAll : MethodName := ⟨RL, "complainAll", "(LAmendsLedger;[J)I"⟩
abbrev cL_undo : ByteArray := method_14_code
def yL_undo : MethodName := ⟨RL, "undo", "(LAmendsLedger;[J)I"⟩
abbrev cL_complaint : ByteArray := method_15_code
def yL_complaint : MethodName := ⟨RL, "complaint", "(LAmendsLedger;II[J)I"⟩
abbrev cL_amends : ByteArray := method_16_code
def yL_amends : MethodName := ⟨RL, "amends", "(LAmendsLedger;III[J)I"⟩
abbrev cL_precedent : ByteArray := method_17_code
def yL_precedent : MethodName := ⟨RL, "precedent", "(LAmendsLedger;III[J)I"⟩
abbrev cL_kind : ByteArray := method_18_code
def yL_kind : MethodName := ⟨RL, "kind", "(LAmendsLedger;II[J)I"⟩
abbrev cL_count : ByteArray := method_19_code
def yL_count : MethodName := ⟨RL, "count", "(LAmendsLedger;I[J)I"⟩
abbrev cL_setting : ByteArray := method_20_code
def yL_setting : MethodName := ⟨RL, "setting", "(LAmendsLedger;I[J)I"⟩
abbrev cL_ofCustomer : ByteArray := method_21_code
def yL_ofCustomer : MethodName := ⟨RL, "ofCustomer", "(LAmendsLedger;II[J)I"⟩
abbrev cL_whyNot : ByteArray := method_22_code
def yL_whyNot : MethodName := ⟨RL, "whyNot", "(LAmendsLedger;III[J)I"⟩
abbrev cL_fair : ByteArray := method_23_code
def yL_fair : MethodName := ⟨RL, "fair", "(LAmendsLedger;I[J)I"⟩
abbrev cL_ifJudged : ByteArray := method_24_code
def yL_ifJudged : MethodName := ⟨RL, "ifJudged", "(LAmendsLedger;III[J)I"⟩
abbrev cL_law : ByteArray := code
def yL_law : MethodName := ⟨RL, "law", "([I)Z"⟩
abbrev vwCl : List vw_C := [(RX0, TX0, 10), (RX1, TX1, 5), (RX2, TX2, 5), (RX3, TX3, 8), (RX4, TX4, 7), (RX5, TX5, 12)]
end
section
/-! ===== the words that every method has ===== -/
def BG : List Cond := lw_tbl.filter goodWord
theorem bg {w : Cond} (i : Nat) (h : lw_tbl[i]? = some w) (g : goodWord w = true) : w ∈ BG := List.mem_filter.mpr ⟨List.mem_of_getElem? h, g⟩
theorem bg_good : GoodIn BG BG := fun w hw => ⟨hw, good_of_word (List.mem_filter.mp hw).2⟩
abbrev rmH (d : Nat) : Room := { frames := d, cells := 0, slots := 0, locals := 28 * d }
abbrev wsM (y : MethodName) (b : ByteArray) (n : Nat) (ret : Option FieldType) : List Cond := .code y b n ret :: BG
theorem wsM_good {y : MethodName} {b : ByteArray} {n : Nat} {ret : Option FieldType} (h : Cond.code y b n ret ∈ BG) : GoodIn BG (wsM y b n ret) := by
  intro w hw
  rcases List.mem_cons.mp hw with rfl | hw
  · exact bg_good _ h
  · exact bg_good w hw
def NWf : List (String × Nat × String × String × String × String) := [("AmendsLedger", 92, "AmendsLedger$Complaints", "size", "I", "AmendsLedger"), ("AmendsLedger$State", 121, "AmendsLedger$Complaints", "size", "I", "AmendsLedger"), ("AmendsLedger", 234, "AmendsLedger$Precedents", "size", "I", "AmendsLedger"), ("AmendsLedger$State", 45, "AmendsLedger", "FIRST_SETTING", "[I", "AmendsLedger"), ("AmendsLedger", 42, "AmendsLedger$State", "menus", "LAmendsLedger$Menus;", "AmendsLedger"), ("AmendsLedger", 88, "AmendsLedger$State", "complaints", "LAmendsLedger$Complaints;", "AmendsLedger"), ("AmendsLedger", 179, "AmendsLedger$State", "precedents", "LAmendsLedger$Precedents;", "AmendsLedger"), ("AmendsLedger", 125, "AmendsLedger$State", "month", "I", "AmendsLedger")]
def NWm : List (String × Nat × MethodName × String) := [("AmendsLedger$State", 11, ⟨"AmendsLedger$Menus", "<init>", "()V"⟩, "AmendsLedger"), ("AmendsLedger$State", 20, ⟨"AmendsLedger$Complaints", "<init>", "()V"⟩, "AmendsLedger"), ("AmendsLedger$State", 48, ⟨"AmendsLedger", "copyAll", "([I[I)V"⟩, "AmendsLedger"), ("AmendsLedger$Menus", 31, ⟨"AmendsLedger", "isKind", "(I)Z"⟩, "AmendsLedger"), ("AmendsLedger$Menus", 27, ⟨"AmendsLedger", "copyAll", "([I[I)V"⟩, "AmendsLedger"), ("AmendsLedger$Complaints", 43, ⟨"AmendsLedger", "copyAll", "([I[I)V"⟩, "AmendsLedger"), ("AmendsLedger$Precedents", 34, ⟨"AmendsLedger", "copyAll", "([I[I)V"⟩, "AmendsLedger"), ("AmendsLedger$State", 76, ⟨"AmendsLedger", "isKind", "(I)Z"⟩, "AmendsLedger"), ("AmendsLedger$State", 72, ⟨"AmendsLedger", "isSetting", "(I)Z"⟩, "AmendsLedger"), ("AmendsLedger$Precedents", 38, ⟨"AmendsLedger", "isKind", "(I)Z"⟩, "AmendsLedger"), ("AmendsLedger$Precedents", 42, ⟨"AmendsLedger", "isGroup", "(I)Z"⟩, "AmendsLedger"), ("AmendsLedger$Menus", 46, ⟨"AmendsLedger", "isWithin", "(III)Z"⟩, "AmendsLedger")]
def NW : List Cond := NWf.map (fun q => .fieldLinkNest q.1 q.2.1 q.2.2.1 q.2.2.2.1 q.2.2.2.2.1 q.2.2.2.2.2) ++ NWm.map (fun q => .methodLinkNest q.1 q.2.1 q.2.2.1 q.2.2.2)
theorem NW_go {s U : State} (hW : s.WarmedH U.vm) (h : ∀ w ∈ NW, va_Nw w s) : ∀ w ∈ NW, va_Nw w U := by
  intro w hw
  have h1 := h w hw
  rcases List.mem_append.mp hw with hw | hw
  · obtain ⟨q, -, rfl⟩ := List.mem_map.mp hw
    exact va_Nw.warmF hW h1
  · obtain ⟨q, -, rfl⟩ := List.mem_map.mp hw
    exact va_Nw.warmM hW h1
/-! ===== the launch's own addresses and classes ===== -/
abbrev TE : Type := va_G × (ClassId × ClassId × ClassId) × Nat × (Nat × Nat × Nat)
abbrev eD (E : TE) : va_G := E.1
abbrev eI (E : TE) : ClassId := E.2.1.1
abbrev eS (E : TE) : ClassId := E.2.1.2.1
abbrev eL (E : TE) : ClassId := E.2.1.2.2
abbrev eh (E : TE) : Nat := E.2.2.1
abbrev eF (E : TE) : Nat := E.2.2.2.1
abbrev eM (E : TE) : Nat := E.2.2.2.2.1
abbrev eG (E : TE) : Nat := E.2.2.2.2.2
abbrev tyE (E : TE) : List (ClassId × FieldType) := [(eI E, .int), (eS E, .object "AmendsLedger$State"), (eL E, .long)]
abbrev Ah (E : TE) : Nat → Prop := fun q => eh E ≤ q
def fF (j : Nat) : Int32 := if j = 0 then 2 else if j = 1 then 1 else 50
def fM (j : Nat) : Int32 := if j = 0 then 1 else 0
def fG (j : Nat) : Int32 := if j = 0 then 6 else if j = 1 then 3 else 100
abbrev stA (n : String) (a : Nat) (f : Nat → Int32) (E : TE) (U : State) : Prop := va_Z "AmendsLedger" n "[I" (.ref a) (Ah E) U U.heap ∧ va_T .int a 3 (fun j => .int (f j)) (Ah E) U U.heap
abbrev Sts (E : TE) (U : State) : Prop := stA "FIRST_SETTING" (eF E) fF E U ∧ stA "LEAST_SETTING" (eM E) fM E U ∧ stA "GREATEST_SETTING" (eG E) fG E U
abbrev Thr (E : TE) (U : State) : Prop := vx_Zq Bundle.tN "UNASSIGNED_STACK" Bundle.steD (Ah E) U U.heap ∧ vx_Zq Bundle.tN "SUPPRESSED_SENTINEL" Bundle.listD (Ah E) U U.heap
def Ks (E : TE) (U : State) : Prop := va_K (eD E) vwCl (tyE E) U ∧ (∀ w ∈ NW, va_Nw w U) ∧ Sts E U ∧ Thr E U
theorem Ks.K {E : TE} {U : State} (h : Ks E U) : va_K (eD E) vwCl (tyE E) U := h.1
theorem Ks.nw {E : TE} {U : State} (h : Ks E U) {w : Cond} (hw : w ∈ NW) : va_Nw w U := h.2.1 w hw
theorem stA.go {n : String} {a : Nat} {f : Nat → Int32} {E : TE} {s U : State} {H : Heap} {locs : List Loc} (h : stA n a f E s) (hvm : s.vm.Alike U.vm) (hS : va_S (Ah E) s.heap H locs) (hh : U.heap = H) : stA n a f E U :=
  ⟨by rw [hh]; exact va_Z.moved hvm (h.1.kept hS.2.1), by rw [hh]; exact va_T.moved hvm (h.2.kept hS.2.1)⟩
theorem Ks.go {E : TE} {s U : State} {H : Heap} {locs : List Loc} (h : Ks E s) (hW : s.WarmedH U.vm) (hS : va_S (Ah E) s.heap H locs) (hh : U.heap = H) : Ks E U := by
  obtain ⟨h1, h2, ⟨a1, a2, a3⟩, t1, t2⟩ := h
  refine ⟨va_K.moved hW.alike h1, NW_go hW h2, ⟨a1.go hW.alike hS hh, a2.go hW.alike hS hh, a3.go hW.alike hS hh⟩, ?_, ?_⟩
  · rw [hh]; exact vx_Zq.moved hW.alike (t1.kept hS.2.1)
  · rw [hh]; exact vx_Zq.moved hW.alike (t2.kept hS.2.1)
theorem Ks.same {E : TE} {u U : State} (h : Ks E u) (hvm : u.vm = U.vm) (hh : u.heap = U.heap) : Ks E U := by
  have hW : u.WarmedH U.vm := by rw [← hvm]; exact State.WarmedH.refl u
  exact h.go hW (H := U.heap) (locs := []) (by rw [hh]; exact va_S.rf) rfl
/-! ===== the world ===== -/
abbrev XS : Type := Nat → Nat → Int32
def ux (x : XS) (k j : Nat) (v : Int32) : XS := fun k' j' => if k' = k ∧ j' = j then v else x k' j'
theorem ux_ne {x : XS} {k j q : Nat} {v : Int32} (h : q ≠ k) : ux x k j v q = x q := by funext j'; simp [ux, h]
theorem ux_eq {x : XS} {k j : Nat} {v : Int32} : ux x k j v k = upd (x k) j v := by funext j'; simp [ux, upd]
def aget (n : Nat) (f : Nat → Int32) (i : Int32) : Option Int32 := if i < 0 ∨ n ≤ i.toNatClampNeg then none else some (f i.toNatClampNeg)
def aset (x : XS) (k n : Nat) (i : Int32) (v : Int32) : Option XS := if i < 0 ∨ n ≤ i.toNatClampNeg then none else some (ux x k i.toNatClampNeg v)
theorem aget_some {n : Nat} {f : Nat → Int32} {i v : Int32} (h : aget n f i = some v) : vp_in i n ∧ f i.toNatClampNeg = v := by
  unfold aget at h
  split at h
  · cases h
  · rename_i g; exact ⟨g, Option.some.inj h⟩
theorem aset_some {x x1 : XS} {k n : Nat} {i v : Int32} (h : aset x k n i v = some x1) : vp_in i n ∧ ux x k i.toNatClampNeg v = x1 := by
  unfold aset at h
  split at h
  · cases h
  · rename_i g; exact ⟨g, Option.some.inj h⟩
abbrev rf (E : TE) (k : Nat) : Value := .ref (eh E + k)
abbrev ar (E : TE) (n : Nat) (f : Nat → Int32) : va_E := .inl (eI E, n, .inl f)
def blkC (E : TE) (b j : Nat) (f : Nat → Int32) : va_E :=
  if j = 0 then .inr (3, [rf E (b + 1), rf E (b + 7), rf E (b + 17), rf E (b + 22), rf E (b + 23), rf E (b + 24), rf E (b + 25), .int (f 7)])
  else if j = 1 then .inr (1, [rf E (b + 2), rf E (b + 3), rf E (b + 4), rf E (b + 5), rf E (b + 6)])
  else if j = 2 then ar E 4 f
  else if j < 7 then ar E 24 f
  else if j = 7 then .inr (0, [.int (f 0), rf E (b + 8), rf E (b + 9), rf E (b + 10), rf E (b + 11), rf E (b + 12), rf E (b + 13), rf E (b + 14), rf E (b + 15), rf E (b + 16)])
  else if j < 17 then ar E 24 f
  else if j = 17 then .inr (2, [.int (f 0), rf E (b + 18), rf E (b + 19), rf E (b + 20), rf E (b + 21)])
  else if j < 21 then ar E 24 f
  else if j = 21 then ar E 12 f
  else if j = 22 then ar E 3 f
  else ar E 4 f
def cellF (E : TE) (k : Nat) (f : Nat → Int32) (h o : Int64) : va_E :=
  if k = 0 then .inr (4, [rf E 1, rf E 27, rf E 53, .int (f 3), .int (f 4), rf E 54, .int (f 6)])
  else if k < 53 then blkC E (1 + 26 * ((k - 1) / 26)) ((k - 1) % 26) f
  else if k = 53 then .inl (eS E, 6, .inr (.inr (.inr (.inr (fun i => some (eh E + (55 + 26 * i)))))))
  else if k = 54 then ar E 60 f
  else if k < 211 then blkC E (55 + 26 * ((k - 55) / 26)) ((k - 55) % 26) f
  else if k = 211 then .inr (5, [rf E 212, rf E 213, rf E 214, .int (f 3), rf E 215, .int (f 5), .int (f 6), .int (f 7), .int (f 8), .int (f 9), rf E 216, .long h])
  else if k = 212 then ar E 442 f
  else if k = 213 then ar E 2652 f
  else if k = 214 then ar E 442 f
  else if k = 215 then ar E 60 f
  else if k = 216 then ar E 45 f
  else .inl (eL E, 1, .inr (.inl (fun _ => o)))
def rowV (x m : XS) (k : Nat) : Nat → Int32 := if k < 211 then x k else m (k - 211)
def cellV (E : TE) (x m : XS) (h o : Int64) (k : Nat) : va_E := cellF E k (rowV x m k) h o
def Wd (E : TE) (x m : XS) (h o : Int64) (H : Heap) : Prop := eh E + 218 ≤ H.size ∧ ∀ k, k < 218 → va_at (eD E) vwCl (eh E + k, cellV E x m h o k) H
def IsB (b : Nat) : Prop := b = 1 ∨ b = 27 ∨ ∃ i, i < 6 ∧ b = 55 + 26 * i
theorem IsB1 : IsB 1 := Or.inl rfl
theorem IsB27 : IsB 27 := Or.inr (Or.inl rfl)
theorem IsB.lt {b : Nat} (h : IsB b) {j : Nat} (hj : j < 26) : b + j < 211 := by
  rcases h with h | h | ⟨i, hi, h⟩ <;> omega
theorem IsB.lt0 {b : Nat} (h : IsB b) : b < 211 := h.lt (j := 0) (by omega)
theorem cellV_blk {E : TE} {x m : XS} {h o : Int64} {b : Nat} (hb : IsB b) (j : Nat) (hj : j < 26) : cellV E x m h o (b + j) = blkC E b j (x (b + j)) := by
  have hlt := hb.lt hj
  unfold cellV rowV
  rw [if_pos hlt]
  unfold cellF
  rcases hb with h | h | ⟨i, hi, h⟩
  · subst h
    rw [if_neg (by omega), if_pos (by omega), show (1 + j - 1) / 26 = 0 by omega, show (1 + j - 1) % 26 = j by omega]
  · subst h
    rw [if_neg (by omega), if_pos (by omega), show (27 + j - 1) / 26 = 1 by omega, show (27 + j - 1) % 26 = j by omega]
  · subst h
    rw [if_neg (by omega), if_neg (by omega), if_neg (by omega), if_neg (by omega), if_pos (by omega), show (55 + 26 * i + j - 55) / 26 = i by omega, show (55 + 26 * i + j - 55) % 26 = j by omega]
theorem cX_0 {E : TE} {x m : XS} {h o : Int64} : cellV E x m h o 0 = .inr (4, [rf E 1, rf E 27, rf E 53, .int (x 0 3), .int (x 0 4), rf E 54, .int (x 0 6)]) := rfl
theorem cX_53 {E : TE} {x m : XS} {h o : Int64} : cellV E x m h o 53 = .inl (eS E, 6, .inr (.inr (.inr (.inr (fun i => some (eh E + (55 + 26 * i))))))) := rfl
theorem cX_54 {E : TE} {x m : XS} {h o : Int64} : cellV E x m h o 54 = ar E 60 (x 54) := rfl
theorem cM_0 {E : TE} {x m : XS} {h o : Int64} : cellV E x m h o 211 = .inr (5, [rf E 212, rf E 213, rf E 214, .int (m 0 3), rf E 215, .int (m 0 5), .int (m 0 6), .int (m 0 7), .int (m 0 8), .int (m 0 9), rf E 216, .long h]) := rfl
theorem cM_1 {E : TE} {x m : XS} {h o : Int64} : cellV E x m h o 212 = ar E 442 (m 1) := rfl
theorem cM_2 {E : TE} {x m : XS} {h o : Int64} : cellV E x m h o 213 = ar E 2652 (m 2) := rfl
theorem cM_3 {E : TE} {x m : XS} {h o : Int64} : cellV E x m h o 214 = ar E 442 (m 3) := rfl
theorem cM_4 {E : TE} {x m : XS} {h o : Int64} : cellV E x m h o 215 = ar E 60 (m 4) := rfl
theorem cM_5 {E : TE} {x m : XS} {h o : Int64} : cellV E x m h o 216 = ar E 45 (m 5) := rfl
theorem cO {E : TE} {x m : XS} {h o : Int64} : cellV E x m h o 217 = .inl (eL E, 1, .inr (.inl (fun _ => o))) := rfl
theorem cB_0 {E : TE} {x m : XS} {h o : Int64} {b : Nat} (hb : IsB b) : cellV E x m h o b = .inr (3, [rf E (b + 1), rf E (b + 7), rf E (b + 17), rf E (b + 22), rf E (b + 23), rf E (b + 24), rf E (b + 25), .int (x b 7)]) := cellV_blk hb 0 (by omega)
theorem cB_1 {E : TE} {x m : XS} {h o : Int64} {b : Nat} (hb : IsB b) : cellV E x m h o (b + 1) = .inr (1, [rf E (b + 2), rf E (b + 3), rf E (b + 4), rf E (b + 5), rf E (b + 6)]) := cellV_blk hb 1 (by omega)
theorem cB_7 {E : TE} {x m : XS} {h o : Int64} {b : Nat} (hb : IsB b) : cellV E x m h o (b + 7) = .inr (0, [.int (x (b + 7) 0), rf E (b + 8), rf E (b + 9), rf E (b + 10), rf E (b + 11), rf E (b + 12), rf E (b + 13), rf E (b + 14), rf E (b + 15), rf E (b + 16)]) := cellV_blk hb 7 (by omega)
theorem cB_17 {E : TE} {x m : XS} {h o : Int64} {b : Nat} (hb : IsB b) : cellV E x m h o (b + 17) = .inr (2, [.int (x (b + 17) 0), rf E (b + 18), rf E (b + 19), rf E (b + 20), rf E (b + 21)]) := cellV_blk hb 17 (by omega)
theorem cB_2 {E : TE} {x m : XS} {h o : Int64} {b : Nat} (hb : IsB b) : cellV E x m h o (b + 2) = ar E 4 (x (b + 2)) := cellV_blk hb 2 (by omega)
theorem cB_3 {E : TE} {x m : XS} {h o : Int64} {b : Nat} (hb : IsB b) : cellV E x m h o (b + 3) = ar E 24 (x (b + 3)) := cellV_blk hb 3 (by omega)
theorem cB_4 {E : TE} {x m : XS} {h o : Int64} {b : Nat} (hb : IsB b) : cellV E x m h o (b + 4) = ar E 24 (x (b + 4)) := cellV_blk hb 4 (by omega)
theorem cB_5 {E : TE} {x m : XS} {h o : Int64} {b : Nat} (hb : IsB b) : cellV E x m h o (b + 5) = ar E 24 (x (b + 5)) := cellV_blk hb 5 (by omega)
theorem cB_6 {E : TE} {x m : XS} {h o : Int64} {b : Nat} (hb : IsB b) : cellV E x m h o (b + 6) = ar E 24 (x (b + 6)) := cellV_blk hb 6 (by omega)
theorem cB_8 {E : TE} {x m : XS} {h o : Int64} {b : Nat} (hb : IsB b) : cellV E x m h o (b + 8) = ar E 24 (x (b + 8)) := cellV_blk hb 8 (by omega)
theorem cB_9 {E : TE} {x m : XS} {h o : Int64} {b : Nat} (hb : IsB b) : cellV E x m h o (b + 9) = ar E 24 (x (b + 9)) := cellV_blk hb 9 (by omega)
theorem cB_10 {E : TE} {x m : XS} {h o : Int64} {b : Nat} (hb : IsB b) : cellV E x m h o (b + 10) = ar E 24 (x (b + 10)) := cellV_blk hb 10 (by omega)
theorem cB_11 {E : TE} {x m : XS} {h o : Int64} {b : Nat} (hb : IsB b) : cellV E x m h o (b + 11) = ar E 24 (x (b + 11)) := cellV_blk hb 11 (by omega)
theorem cB_12 {E : TE} {x m : XS} {h o : Int64} {b : Nat} (hb : IsB b) : cellV E x m h o (b + 12) = ar E 24 (x (b + 12)) := cellV_blk hb 12 (by omega)
theorem cB_13 {E : TE} {x m : XS} {h o : Int64} {b : Nat} (hb : IsB b) : cellV E x m h o (b + 13) = ar E 24 (x (b + 13)) := cellV_blk hb 13 (by omega)
theorem cB_14 {E : TE} {x m : XS} {h o : Int64} {b : Nat} (hb : IsB b) : cellV E x m h o (b + 14) = ar E 24 (x (b + 14)) := cellV_blk hb 14 (by omega)
theorem cB_15 {E : TE} {x m : XS} {h o : Int64} {b : Nat} (hb : IsB b) : cellV E x m h o (b + 15) = ar E 24 (x (b + 15)) := cellV_blk hb 15 (by omega)
theorem cB_16 {E : TE} {x m : XS} {h o : Int64} {b : Nat} (hb : IsB b) : cellV E x m h o (b + 16) = ar E 24 (x (b + 16)) := cellV_blk hb 16 (by omega)
theorem cB_18 {E : TE} {x m : XS} {h o : Int64} {b : Nat} (hb : IsB b) : cellV E x m h o (b + 18) = ar E 24 (x (b + 18)) := cellV_blk hb 18 (by omega)
theorem cB_19 {E : TE} {x m : XS} {h o : Int64} {b : Nat} (hb : IsB b) : cellV E x m h o (b + 19) = ar E 24 (x (b + 19)) := cellV_blk hb 19 (by omega)
theorem cB_20 {E : TE} {x m : XS} {h o : Int64} {b : Nat} (hb : IsB b) : cellV E x m h o (b + 20) = ar E 24 (x (b + 20)) := cellV_blk hb 20 (by omega)
theorem cB_21 {E : TE} {x m : XS} {h o : Int64} {b : Nat} (hb : IsB b) : cellV E x m h o (b + 21) = ar E 12 (x (b + 21)) := cellV_blk hb 21 (by omega)
theorem cB_22 {E : TE} {x m : XS} {h o : Int64} {b : Nat} (hb : IsB b) : cellV E x m h o (b + 22) = ar E 3 (x (b + 22)) := cellV_blk hb 22 (by omega)
theorem cB_23 {E : TE} {x m : XS} {h o : Int64} {b : Nat} (hb : IsB b) : cellV E x m h o (b + 23) = ar E 4 (x (b + 23)) := cellV_blk hb 23 (by omega)
theorem cB_24 {E : TE} {x m : XS} {h o : Int64} {b : Nat} (hb : IsB b) : cellV E x m h o (b + 24) = ar E 4 (x (b + 24)) := cellV_blk hb 24 (by omega)
theorem cB_25 {E : TE} {x m : XS} {h o : Int64} {b : Nat} (hb : IsB b) : cellV E x m h o (b + 25) = ar E 4 (x (b + 25)) := cellV_blk hb 25 (by omega)
theorem Wd.at {E : TE} {x m : XS} {h o : Int64} {H : Heap} (hW : Wd E x m h o H) {k : Nat} (hk : k < 218) {c : va_E} (hc : cellV E x m h o k = c) : va_P (eD E) vwCl [(eh E + k, c)] H := by
  intro i q hq
  have hz : i < 1 := (List.getElem?_eq_some_iff.mp hq).1
  rw [show i = 0 by omega] at hq
  cases hq
  rw [← hc]
  exact hW.2 k hk
theorem Wd.upd {E : TE} {x m x1 m1 : XS} {h o h1 o1 : Int64} {H H1 : Heap} (hW : Wd E x m h o H) {k : Nat} (hk : k < 218) {c : va_E} (hc : cellV E x1 m1 h1 o1 k = c) (hat : va_at (eD E) vwCl (eh E + k, c) H1) (hz : H1.size = H.size) (ho : ∀ q : Nat, q ≠ eh E + k → H1[q]? = H[q]?)
    (hs : ∀ q, q < 218 → q ≠ k → cellV E x1 m1 h1 o1 q = cellV E x m h o q) : Wd E x1 m1 h1 o1 H1 := by
  refine ⟨by rw [hz]; exact hW.1, fun q hq => ?_⟩
  by_cases e : q = k
  · subst e; rw [hc]; exact hat
  · rw [hs q hq e]; exact (hW.2 q hq).kept (ho _ (by show eh E + q ≠ eh E + k; omega))
theorem cellV_ux {E : TE} {x m : XS} {h o : Int64} {k j : Nat} {v : Int32} : ∀ q, q < 218 → q ≠ k → cellV E (ux x k j v) m h o q = cellV E x m h o q := by
  intro q _ hq; unfold cellV rowV; rw [ux_ne hq]
theorem cellV_um {E : TE} {x m : XS} {h o : Int64} {k j : Nat} {v : Int32} : ∀ q, q < 218 → q ≠ 211 + k → cellV E x (ux m k j v) h o q = cellV E x m h o q := by
  intro q _ hq; unfold cellV rowV
  by_cases h1 : q < 211
  · rw [if_pos h1, if_pos h1]
  · rw [if_neg h1, if_neg h1, ux_ne (by omega)]
theorem cellV_h {E : TE} {x m : XS} {h h1 o : Int64} : ∀ q, q < 218 → q ≠ 211 → cellV E x m h1 o q = cellV E x m h o q := by
  intro q _ hq; unfold cellV cellF
  by_cases h0 : q = 211
  · exact absurd h0 hq
  · simp [h0]
theorem cellV_o {E : TE} {x m : XS} {h o o1 : Int64} : ∀ q, q < 218 → q ≠ 217 → cellV E x m h o1 q = cellV E x m h o q := by
  intro q h1 hq; unfold cellV cellF
  by_cases a : q < 211
  · simp [a]
  · rcases (by omega : q = 211 ∨ q = 212 ∨ q = 213 ∨ q = 214 ∨ q = 215 ∨ q = 216) with e | e | e | e | e | e <;> subst e <;> rfl
theorem IsB.l8 {b : Nat} (h : IsB b) {j : Nat} (hj : j < 26) : b + j < 218 := Nat.lt_trans (h.lt hj) (by decide)
theorem IsB.l0 {b : Nat} (h : IsB b) : b < 218 := Nat.lt_trans h.lt0 (by decide)
theorem oif {c : Prop} [Decidable c] {α : Type} {a r : α} (h : (if c then some a else none) = some r) : c ∧ some a = some r := by
  by_cases hc : c
  · rw [if_pos hc] at h; exact ⟨hc, h⟩
  · rw [if_neg hc] at h; cases h
def dok (x : UInt64) : Option UInt64 := if x &&& 0x7fffffffffffffff ≤ 0x7ff0000000000000 then some x else none
theorem dok_some {x y : UInt64} (h : dok x = some y) : vf_n64 x ∧ x = y := by
  unfold dok at h
  split at h
  · rename_i g; exact ⟨g, Option.some.inj h⟩
  · cases h
section XK
variable {p : Program} {l : Launch} {e : Env} {R : Room} {s : State} {mi : MethodId} {args : Array Value} {below : List Frame} {meth : Method} {c : Code} {H : Heap} {locs : List Loc} {cells slots : Nat} {Q : State → Prop}
variable {cc : ByteArray} {pc : Nat} {ls : Array Slot} {rest : List Value} {E : TE} {x m : XS} {h o : Int64}
theorem Wd.rec (hK : Ks E s) (hW : Wd E x m h o H) {k : Nat} (hk : k < 218) {ci : Nat} {fs : List Value} (hc : cellV E x m h o k = .inr (ci, fs)) {C : String} {T : u_T} {N : Nat} (hcl : vwCl[ci]? = some (C, T, N)) : ∃ cell : Cell, H[eh E + k]? = some cell ∧ cell.vm.isStatics = false ∧ s.vm.findClass C = some cell.cls :=
  va_recv hK.1 (hW.at hk hc) (ci := ci) (q0 := 0) hcl rfl
theorem r_get (hx : p.tables.exec = Jvm.exec) (hb : c.code = cc) (hB : ∀ w ∈ BG, w.before args s = true) (hK : Ks E s) {own C : String} {T : u_T} {N ci index : Nat} (hin : ∀ w ∈ u_ws C T N, w ∈ BG) (hown : s.vm.findClass own = some mi.cls) (hW : Wd E x m h o H) {k : Nat} (hk : k < 218) {fs : List Value} (hc : cellV E x m h o k = .inr (ci, fs)) (hcl : vwCl[ci]? = some (C, T, N)) (j : Nat) (hj : j < N) (hT : (T j).1 = C) (hlink : Cond.fieldLink own index C (T j).2.1 (T j).2.2.1 ∈ BG) {v : Value} (hv : fs[j]? = some v) (hdg : decode cc pc = .ok (.getfield index, 3))
    (kk : W p l e R s mi args below meth c H locs cells slots Q (F0 mi (pc + 3) ls (v :: rest))) : W p l e R s mi args below meth c H locs cells slots Q (F0 mi pc ls (.ref (eh E + k) :: rest)) :=
  va_get (own := own) (ref := C) (ci := ci) (ws := [(eh E + k, .inr (ci, fs))]) (C := C) (T := T) (N := N) hx hb hB hin hown hK.1 (hW.at hk hc) 0 rfl hcl j hj (hB _ hlink) (fun _ h9 => by rw [hT] at h9; exact h9) hv hdg kk
theorem r_getN (hx : p.tables.exec = Jvm.exec) (hb : c.code = cc) (hB : ∀ w ∈ BG, w.before args s = true) (hK : Ks E s) {own C host : String} {T : u_T} {N ci index : Nat} (hin : ∀ w ∈ u_ws C T N, w ∈ BG) (hown : s.vm.findClass own = some mi.cls) (hW : Wd E x m h o H) {k : Nat} (hk : k < 218) {fs : List Value} (hc : cellV E x m h o k = .inr (ci, fs)) (hcl : vwCl[ci]? = some (C, T, N)) (j : Nat) (hj : j < N) (hT : (T j).1 = C) (hlink : Cond.fieldLinkNest own index C (T j).2.1 (T j).2.2.1 host ∈ NW) {v : Value} (hv : fs[j]? = some v) (hdg : decode cc pc = .ok (.getfield index, 3))
    (kk : W p l e R s mi args below meth c H locs cells slots Q (F0 mi (pc + 3) ls (v :: rest))) : W p l e R s mi args below meth c H locs cells slots Q (F0 mi pc ls (.ref (eh E + k) :: rest)) :=
  va_getN (own := own) (ref := C) (ci := ci) (host := host) (ws := [(eh E + k, .inr (ci, fs))]) (C := C) (T := T) (N := N) hx hb hB hin hown hK.1 (hW.at hk hc) 0 rfl hcl j hj (va_Nw.use rfl (hK.nw hlink)) (fun _ h9 => by rw [hT] at h9; exact h9) hv hdg kk
theorem r_put (hx : p.tables.exec = Jvm.exec) (hb : c.code = cc) (hB : ∀ w ∈ BG, w.before args s = true) (hK : Ks E s) {own C : String} {T : u_T} {N ci index : Nat} (hin : ∀ w ∈ u_ws C T N, w ∈ BG) (ty0 : Nat → FieldType) (hty : ∀ k, k < N → parseFieldDescriptor (T k).2.2.1 = some (ty0 k)) (hnm : ∀ a, a < N → ∀ b, b < N → a ≠ b → (T a).2.1 ≠ (T b).2.1) (hown : s.vm.findClass own = some mi.cls) (hW : Wd E x m h o H) (hS : va_S (Ah E) s.heap H locs) {k : Nat} (hk : k < 218) {fs : List Value} (hc : cellV E x m h o k = .inr (ci, fs)) (hcl : vwCl[ci]? = some (C, T, N)) (j : Nat) (hj : j < N) (hT : (T j).1 = C) (hfin : (T j).2.2.2 = false) (hlink : Cond.fieldLink own index C (T j).2.1 (T j).2.2.1 ∈ BG) {ty : FieldType} {v : Value} (hd : parseFieldDescriptor (T j).2.2.1 = some ty) (hn : narrow ty v = v) (hfit : fits ty v = true) (hl : j < fs.length)
    {x1 m1 : XS} {h1 o1 : Int64} (hc1 : cellV E x1 m1 h1 o1 k = .inr (ci, fs.set j v)) (hs : ∀ q, q < 218 → q ≠ k → cellV E x1 m1 h1 o1 q = cellV E x m h o q) (hdg : decode cc pc = .ok (.putfield index, 3))
    (kk : ∀ (H1 : Heap) (locs1 : List Loc), Wd E x1 m1 h1 o1 H1 → va_S (Ah E) s.heap H1 locs1 → W p l e R s mi args below meth c H1 locs1 cells slots Q (F0 mi (pc + 3) ls rest)) : W p l e R s mi args below meth c H locs cells slots Q (F0 mi pc ls (v :: .ref (eh E + k) :: rest)) := by
  have hap := va_apart (own := own) hB hin ty0 hty hnm hK.1 hcl
  have he : [(eh E + k, (.inr (ci, fs) : va_E))][0]? = some (eh E + k, .inr (ci, fs)) := rfl
  obtain ⟨r, h2, cell, q1, q2, q3, q4⟩ := hW.at hk hc 0 _ he
  have hr : r = (C, T, N) := Option.some.inj (h2.symm.trans hcl)
  subst hr
  obtain ⟨hSl, hfc, kC, hkC, hkind⟩ := hK.1.1 ci _ hcl
  obtain ⟨cf, kf, fi, f, hi, hsl⟩ := hSl j hj
  have hlay := hB _ (hin _ (u_in_lay hj))
  unfold u_lay at hlay
  rw [if_neg (by rw [hfin]; decide)] at hlay
  have hst := (u_facts hfc hkC (u_lays hB hin hj) hi).1
  have h6 := u_store hfc hkC hkind hlay hi hd hn hfit
  refine W.putK hx hb (f := f) ⟨hown, hB _ hlink, ⟨_, _, _, by rw [← hT]; exact hi⟩, hst⟩ (by rw [q2]; exact h6) q1 q3 (by rw [hsl]; exact k2_hasslot (q4 j hj)) rfl rfl hdg fun H' e1 e2 e3 => ?_
  rw [hsl] at e1 ⊢
  exact kk H' _ (hW.upd hk hc1 ⟨_, hcl, t_OB.to (V := updV (vp_V fs) j v) ⟨_, e1, q2, q3, t_set q4 hap hj v⟩ (fun j _ => vp_updV_set hl v j)⟩ e2 e3 hs) (hS.put e2 e3 (Nat.le_add_right _ _))
theorem r_iald (hx : p.tables.exec = Jvm.exec) (hb : c.code = cc) (hK : Ks E s) (hW : Wd E x m h o H) {k n : Nat} (hk : k < 218) {f : Nat → Int32} (hc : cellV E x m h o k = ar E n f) {i v : Int32} (hv : aget n f i = some v) (hdg : decode cc pc = .ok (.iaload, 1))
    (kk : W p l e R s mi args below meth c H locs cells slots Q (F0 mi (pc + 1) ls (.int v :: rest))) : W p l e R s mi args below meth c H locs cells slots Q (F0 mi pc ls (.int i :: .ref (eh E + k) :: rest)) := by
  obtain ⟨hin, rfl⟩ := aget_some hv
  exact va_iald (D := eD E) (cl := vwCl) (tys := tyE E) (ws := [(eh E + k, ar E n f)]) hx hb hK.1 (hW.at hk hc) 0 0 rfl rfl hin hdg kk
theorem r_alen (hx : p.tables.exec = Jvm.exec) (hb : c.code = cc) (hK : Ks E s) (hW : Wd E x m h o H) {k n : Nat} (hk : k < 218) {f : Nat → Int32} (hc : cellV E x m h o k = ar E n f) {v : Int32} (hv : Int32.ofNat n = v) (hdg : decode cc pc = .ok (.arraylength, 1))
    (kk : W p l e R s mi args below meth c H locs cells slots Q (F0 mi (pc + 1) ls (.int v :: rest))) : W p l e R s mi args below meth c H locs cells slots Q (F0 mi pc ls (.ref (eh E + k) :: rest)) :=
  va_alen (D := eD E) (cl := vwCl) (tys := tyE E) (ws := [(eh E + k, ar E n f)]) (x := (n, .inl f)) hx hb hK.1 (hW.at hk hc) 0 0 rfl rfl hv hdg kk
theorem r_iastG (hx : p.tables.exec = Jvm.exec) (hb : c.code = cc) (hK : Ks E s) (hW : Wd E x m h o H) (hS : va_S (Ah E) s.heap H locs) {k n : Nat} (hk : k < 218) {f : Nat → Int32} (hc : cellV E x m h o k = ar E n f) {i v : Int32} (hin : vp_in i n)
    {x1 m1 : XS} {h1 o1 : Int64} (hc1 : cellV E x1 m1 h1 o1 k = ar E n (upd f i.toNatClampNeg v)) (hs : ∀ q, q < 218 → q ≠ k → cellV E x1 m1 h1 o1 q = cellV E x m h o q) (hdg : decode cc pc = .ok (.iastore, 1))
    (kk : ∀ (H1 : Heap) (locs1 : List Loc), Wd E x1 m1 h1 o1 H1 → va_S (Ah E) s.heap H1 locs1 → W p l e R s mi args below meth c H1 locs1 cells slots Q (F0 mi (pc + 1) ls rest)) : W p l e R s mi args below meth c H locs cells slots Q (F0 mi pc ls (.int v :: .int i :: .ref (eh E + k) :: rest)) := by
  have hP := hW.at hk hc
  have ht : (tyE E)[0]? = some (eI E, FieldType.int) := rfl
  refine W.iast hx hb (hP 0 _ rfl) ((hK.1.2 0 _ ht).1 n (fun j => .int (f j))) (fun q => by cases q) (by show ¬ (i < 0 ∨ (arrV _ _ _).slots.size ≤ _); rw [arrV_size]; exact hin) rfl rfl hdg fun H1 e z oq => ?_
  refine kk H1 _ (hW.upd hk hc1 ?_ z oq hs) (hS.put z oq (Nat.le_add_right _ _))
  show H1[eh E + k]? = some (vp_cell _ _)
  rw [e]
  rw [vp_cell_i, vp_cell_i, arrV_store]
  congr 2
  funext q
  by_cases hq : q = i.toNatClampNeg
  · subst hq
    simp [updV, upd]
  · simp [updV, upd, hq]
theorem r_iastX (hx : p.tables.exec = Jvm.exec) (hb : c.code = cc) (hK : Ks E s) (hW : Wd E x m h o H) (hS : va_S (Ah E) s.heap H locs) {k n : Nat} (hk : k < 211) (hc : ∀ x : XS, cellV E x m h o k = ar E n (x k)) {i v : Int32} {x1 : XS} (hv : aset x k n i v = some x1) (hdg : decode cc pc = .ok (.iastore, 1))
    (kk : ∀ (H1 : Heap) (locs1 : List Loc), Wd E x1 m h o H1 → va_S (Ah E) s.heap H1 locs1 → W p l e R s mi args below meth c H1 locs1 cells slots Q (F0 mi (pc + 1) ls rest)) : W p l e R s mi args below meth c H locs cells slots Q (F0 mi pc ls (.int v :: .int i :: .ref (eh E + k) :: rest)) := by
  obtain ⟨hin, rfl⟩ := aset_some hv
  exact r_iastG hx hb hK hW hS (by omega) (hc x) hin (by rw [hc, ux_eq]) cellV_ux hdg kk
theorem r_iastM (hx : p.tables.exec = Jvm.exec) (hb : c.code = cc) (hK : Ks E s) (hW : Wd E x m h o H) (hS : va_S (Ah E) s.heap H locs) {k n : Nat} (hk : k < 6) (hc : ∀ m : XS, cellV E x m h o (211 + k) = ar E n (m k)) {i v : Int32} {m1 : XS} (hv : aset m k n i v = some m1) (hdg : decode cc pc = .ok (.iastore, 1))
    (kk : ∀ (H1 : Heap) (locs1 : List Loc), Wd E x m1 h o H1 → va_S (Ah E) s.heap H1 locs1 → W p l e R s mi args below meth c H1 locs1 cells slots Q (F0 mi (pc + 1) ls rest)) : W p l e R s mi args below meth c H locs cells slots Q (F0 mi pc ls (.int v :: .int i :: .ref (eh E + (211 + k)) :: rest)) := by
  obtain ⟨hin, rfl⟩ := aset_some hv
  exact r_iastG hx hb hK hW hS (by omega) (hc m) hin (by rw [hc, ux_eq]) cellV_um hdg kk
/-! ===== contracts ===== -/
def QG (E : TE) (W1 : Heap → Prop) (r : Option Value) : Array Value → State → Outcome → State → Prop := fun _ st oc t => oc = .returned r ∧ W1 t.heap ∧ va_F (Ah E) st t
def MG (l : Launch) (E : TE) (y : MethodName) (b : ByteArray) (n : Nat) (ret : Option FieldType) (d : Nat) (As : List Value) (W0 W1 : Heap → Prop) (r : Option Value) : Prop :=
  Met l y (wsM y b n ret) (rmH d) (va_Pc As (fun U => Ks E U ∧ W0 U.heap)) (QG E W1 r) 0 0 (Ah E)
def EQ (E : TE) (below : List Frame) (args : Array Value) (s : State) (W1 : Heap → Prop) (r : Option Value) : State → Prop := MQ below (QG E W1 r) args s 0 0 (Ah E)
theorem m_in {y : MethodName} {b : ByteArray} {n : Nat} {ret : Option FieldType} {d : Nat} {As : List Value} {W0 W1 : Heap → Prop} {r : Option Value} (hy : plainName y.cls = true) (hA : (lg_sl As).length ≤ n)
    (body : ∀ (p : Program) (e : Env) (s : State) (mi : MethodId) (args : Array Value) (below : List Frame) (meth : Method) (c : Code) (H : Heap) (ls : Array Slot), p.tables.exec = Jvm.exec → c.code = b → meth.sig.returnType = ret → meth.locks = false → c.maxLocals = n → s.vm.findClass y.cls = some mi.cls → (∀ w ∈ BG, w.before args s = true) → Ks E s → W0 H → va_S (Ah E) s.heap H [] → lv_has ls n (lv_args 0 As) →
      W p l e (rmH d) s mi args below meth c H [] 0 0 (EQ E below args s W1 r) (F0 mi 0 ls [])) : MG l E y b n ret d As W0 W1 r := by
  refine Met.ofW (cc := b) (maxL := n) (ret := ret) hy rfl ?_
  intro p e s mi args below meth c s₁ B hml hv
  obtain ⟨rfl, hK, hW⟩ := hv
  have hl := lv_entry As (n := n) hA
  rw [lg_entry_eq]
  exact body p e s mi _ below meth c s.heap _ B.exec B.bytes B.returns B.notSynchronized hml (findClass_of_methodNamed B.named) (fun w hw => atoms_spec (ws := wsM y b n ret) B.pre w (List.mem_cons_of_mem _ hw)) hK hW va_S.rf hl
theorem e_i {W1 : Heap → Prop} {v : Int32} (hx : p.tables.exec = Jvm.exec) (hb : c.code = cc) (hr : meth.sig.returnType = some .int) (hlocks : meth.locks = false) (hW : W1 H) (hS : va_S (Ah E) s.heap H locs) (hdg : decode cc pc = .ok (.ireturn, 1)) : W p l e R s mi args below meth c H locs 0 0 (EQ E below args s W1 (some (.int v))) (F0 mi pc ls [.int v]) :=
  W.iret hx hb hr (fun t ht hW9 => ⟨rfl, by rw [ht]; exact hW, hS.F ht⟩) hS.2.2 hdg hlocks
theorem e_z {W1 : Heap → Prop} {v : Int32} (hx : p.tables.exec = Jvm.exec) (hb : c.code = cc) (hr : meth.sig.returnType = some .boolean) (hlocks : meth.locks = false) (hv : v = 0 ∨ v = 1) (hW : W1 H) (hS : va_S (Ah E) s.heap H locs) (hdg : decode cc pc = .ok (.ireturn, 1)) : W p l e R s mi args below meth c H locs 0 0 (EQ E below args s W1 (some (.int v))) (F0 mi pc ls [.int v]) :=
  W.zret hx hb hr (by rcases hv with rfl | rfl <;> rfl) (fun t ht hW9 => ⟨rfl, by rw [ht]; exact hW, hS.F ht⟩) hS.2.2 hdg hlocks
theorem e_l {W1 : Heap → Prop} {v : Int64} (hx : p.tables.exec = Jvm.exec) (hb : c.code = cc) (hr : meth.sig.returnType = some .long) (hlocks : meth.locks = false) (hW : W1 H) (hS : va_S (Ah E) s.heap H locs) (hdg : decode cc pc = .ok (.lreturn, 1)) : W p l e R s mi args below meth c H locs 0 0 (EQ E below args s W1 (some (.long v))) (F0 mi pc ls [.long v]) :=
  W.lret hx hb hr (fun t ht hW9 => ⟨rfl, by rw [ht]; exact hW, hS.F ht⟩) hS.2.2 hdg hlocks
theorem e_d {W1 : Heap → Prop} {v : UInt64} (hx : p.tables.exec = Jvm.exec) (hb : c.code = cc) (hr : meth.sig.returnType = some .double) (hlocks : meth.locks = false) (hW : W1 H) (hS : va_S (Ah E) s.heap H locs) (hdg : decode cc pc = .ok (.dreturn, 1)) : W p l e R s mi args below meth c H locs 0 0 (EQ E below args s W1 (some (.double v))) (F0 mi pc ls [.double v]) :=
  W.dret hx hb hr (fun t ht hW9 => ⟨rfl, by rw [ht]; exact hW, hS.F ht⟩) hS.2.2 hdg hlocks
theorem e_v {W1 : Heap → Prop} (hx : p.tables.exec = Jvm.exec) (hb : c.code = cc) (hr : meth.sig.returnType = none) (hlocks : meth.locks = false) (hW : W1 H) (hS : va_S (Ah E) s.heap H locs) (hdg : decode cc pc = .ok (.return_, 1)) : W p l e R s mi args below meth c H locs 0 0 (EQ E below args s W1 none) (F0 mi pc ls []) :=
  W.vret hx hb hr (fun t ht hW9 => ⟨rfl, by rw [ht]; exact hW, hS.F ht⟩) hS.2.2 hdg hlocks
theorem e_a {W1 : Heap → Prop} {k : Nat} {C : String} (hx : p.tables.exec = Jvm.exec) (hb : c.code = cc) (hr : meth.sig.returnType = some (.object C)) (hlocks : meth.locks = false) (hW : W1 H) (hS : va_S (Ah E) s.heap H locs) (hdg : decode cc pc = .ok (.areturn, 1)) : W p l e R s mi args below meth c H locs 0 0 (EQ E below args s W1 (some (.ref k))) (F0 mi pc ls [.ref k]) :=
  W.aret hx hb hr (Or.inl ⟨_, rfl⟩) (Or.inr ⟨_, rfl⟩) (fun t ht hW9 => ⟨rfl, by rw [ht]; exact hW, hS.F ht⟩) hS.2.2 hdg hlocks
/-! ===== calls ===== -/
theorem pc_blind {As : List Value} {W0 : Heap → Prop} : FrameBlind (va_Pc As (fun U => Ks E U ∧ W0 U.heap)) := fun _ _ _ _ h => ⟨h.1, h.2.1.same rfl rfl, h.2.2⟩
theorem pc_go {As : List Value} {W0 : Heap → Prop} (hK : Ks E s) (hS : va_S (Ah E) s.heap H locs) (hW : W0 H) : ∀ U : State, U.heap = H → s.WarmedH U.vm → va_Pc As (fun U => Ks E U ∧ W0 U.heap) As.toArray U := fun U hU hw => ⟨rfl, hK.go hw hS hU, by rw [hU]; exact hW⟩
theorem c_run {W1 : Heap → Prop} {r : Option Value} {a : Array Value} {st0 st1 : List Value} (hr : va_Run p l e R s mi args below meth c H locs cells slots 0 0 (F0 mi pc ls st0) rest (QG E W1 r a) (Ah E)) (hS : va_S (Ah E) s.heap H locs) (h1 : r.toList ++ rest = st1)
    (kk : ∀ (H1 : Heap) (locs1 : List Loc), W1 H1 → va_S (Ah E) s.heap H1 locs1 → W p l e R s mi args below meth c H1 locs1 cells slots Q (F0 mi (pc + 3) ls st1)) : W p l e R s mi args below meth c H locs cells slots Q (F0 mi pc ls st0) := by
  subst h1
  intro T hT X
  obtain ⟨v, st₀, t, T', L, h0, X', hL, e1, e2, ⟨hv, hw, hz, hk⟩, st⟩ := hr T hT X
  cases hv
  rw [h0] at hz hk
  obtain ⟨t2, a1, b1⟩ := kk T'.heap (locs ++ L) (by rw [e1]; exact hw)
    ⟨Nat.le_trans hS.1 (by rw [e1]; exact hz), fun q h1 h2 => by rw [e1, hk q (Nat.lt_of_lt_of_le h1 hS.1) h2]; exact hS.2.1 q h1 h2, fun q hq => by
      rcases List.mem_append.mp hq with h | h
      · exact hS.2.2 q h
      · exact hL q h⟩ T' rfl X'
  exact ⟨t2, st t2 a1, b1⟩
variable {y : MethodName} {b : ByteArray} {n nL d : Nat} {ret : Option FieldType} {As st0 st1 : List Value} {W0 W1 : Heap → Prop} {r : Option Value} {own C host : String} {index a k : Nat}
theorem c_S (hM : MG l E y b n ret d As W0 W1 r) (cw : CallB R s args own index y b n ret (wsM y b n ret) (rmH d) 0 0 k ∧ (Cond.static y).before args s = true) (hx : p.tables.exec = Jvm.exec) (hb : c.code = cc) (hml : c.maxLocals = nL) (hown : s.vm.findClass own = some mi.cls) (hB : ∀ w ∈ BG, w.before args s = true) (hK : Ks E s) (hW : W0 H) (hS : va_S (Ah E) s.heap H locs) (hc : cells ≤ R.cells ∧ slots ≤ R.slots) (hn : As.length = k) (hsize : ls.size = nL) (hst : st0 = As.reverse ++ rest) (hroom : (rest.map fun v => v.category).sum ≤ 8) (h1 : r.toList ++ rest = st1) (hdg : decode cc pc = .ok (.invokestatic index, 3))
    (kk : ∀ (H1 : Heap) (locs1 : List Loc), W1 H1 → va_S (Ah E) s.heap H1 locs1 → W p l e R s mi args below meth c H1 locs1 cells slots Q (F0 mi (pc + 3) ls st1)) : W p l e R s mi args below meth c H locs cells slots Q (F0 mi pc ls st0) :=
  c_run (va_runS (Ts := BG) ⟨hx, hb, hml, hown, hB⟩ hM cw ⟨pc_blind, pc_go hK hS hW⟩ rfl hn hsize hst (lv_room hroom) hdg hc) hS h1 kk
theorem c_SN (hM : MG l E y b n ret d As W0 W1 r) (cw : va_CN R s args own index y host b n ret (wsM y b n ret) (rmH d) 0 0 k ∧ (Cond.static y).before args s = true ∧ True) (hx : p.tables.exec = Jvm.exec) (hb : c.code = cc) (hml : c.maxLocals = nL) (hown : s.vm.findClass own = some mi.cls) (hB : ∀ w ∈ BG, w.before args s = true) (hK : Ks E s) (hW : W0 H) (hS : va_S (Ah E) s.heap H locs) (hc : cells ≤ R.cells ∧ slots ≤ R.slots) (hn : As.length = k) (hsize : ls.size = nL) (hst : st0 = As.reverse ++ rest) (hroom : (rest.map fun v => v.category).sum ≤ 8) (h1 : r.toList ++ rest = st1) (hdg : decode cc pc = .ok (.invokestatic index, 3))
    (kk : ∀ (H1 : Heap) (locs1 : List Loc), W1 H1 → va_S (Ah E) s.heap H1 locs1 → W p l e R s mi args below meth c H1 locs1 cells slots Q (F0 mi (pc + 3) ls st1)) : W p l e R s mi args below meth c H locs cells slots Q (F0 mi pc ls st0) :=
  c_run (va_runSN (Ts := BG) ⟨hx, hb, hml, hown, hB⟩ hM cw ⟨pc_blind, pc_go hK hS hW⟩ rfl hn hsize hst (lv_room hroom) hdg hc) hS h1 kk
theorem c_V (hM : MG l E y b n ret d (.ref a :: As) W0 W1 r) (cw : CallW R s args own C index y b n ret (wsM y b n ret) (rmH d) 0 0 k) (hrec : ∃ cell : Cell, H[a]? = some cell ∧ cell.vm.isStatics = false ∧ s.vm.findClass C = some cell.cls) (hx : p.tables.exec = Jvm.exec) (hb : c.code = cc) (hml : c.maxLocals = nL) (hown : s.vm.findClass own = some mi.cls) (hB : ∀ w ∈ BG, w.before args s = true) (hK : Ks E s) (hW : W0 H) (hS : va_S (Ah E) s.heap H locs) (hc : cells ≤ R.cells ∧ slots ≤ R.slots) (hn : As.length = k) (hsize : ls.size = nL) (hst : st0 = As.reverse ++ .ref a :: rest) (hroom : (rest.map fun v => v.category).sum ≤ 8) (h1 : r.toList ++ rest = st1) (hdg : decode cc pc = .ok (.invokevirtual index, 3))
    (kk : ∀ (H1 : Heap) (locs1 : List Loc), W1 H1 → va_S (Ah E) s.heap H1 locs1 → W p l e R s mi args below meth c H1 locs1 cells slots Q (F0 mi (pc + 3) ls st1)) : W p l e R s mi args below meth c H locs cells slots Q (F0 mi pc ls st0) :=
  c_run (va_runV (Ts := BG) ⟨hx, hb, hml, hown, hB⟩ hM cw ⟨pc_blind, hrec, pc_go hK hS hW⟩ rfl hn hsize hst (lv_room hroom) hdg hc) hS h1 kk
theorem k_S {R : Room} {d : Nat} (hB : ∀ w ∈ BG, w.before args s = true) (hcode : Cond.code y b n ret ∈ BG) (hini : Cond.initialized y.cls ∈ BG) (hl : Cond.methodLink own index y ∈ BG) (hst : Cond.static y ∈ BG) (hd : y.cls ≠ "java/lang/invoke/MethodHandle" ∧ y.cls ≠ "java/lang/invoke/VarHandle" ∧ (parseMethodDescriptor y.desc).map (fun d => d.parameters.length) = some k) (hR : (rmH d).frames + 1 ≤ R.frames ∧ 8 + (n + 11) + (rmH d).locals ≤ R.locals) :
    CallB R s args own index y b n ret (wsM y b n ret) (rmH d) 0 0 k ∧ (Cond.static y).before args s = true :=
  ⟨callB_of k hB (wsM_good hcode) rfl rfl rfl (hB _ hini) (hB _ hl) hd hR, hB _ hst⟩
theorem k_SN {R : Room} {d : Nat} (hB : ∀ w ∈ BG, w.before args s = true) (hK : Ks E s) (hcode : Cond.code y b n ret ∈ BG) (hini : Cond.initialized y.cls ∈ BG) (hl : Cond.methodLinkNest own index y host ∈ NW) (hst : Cond.static y ∈ BG) (hd : y.cls ≠ "java/lang/invoke/MethodHandle" ∧ y.cls ≠ "java/lang/invoke/VarHandle" ∧ (parseMethodDescriptor y.desc).map (fun d => d.parameters.length) = some k) (hR : (rmH d).frames + 1 ≤ R.frames ∧ 8 + (n + 11) + (rmH d).locals ≤ R.locals) :
    va_CN R s args own index y host b n ret (wsM y b n ret) (rmH d) 0 0 k ∧ (Cond.static y).before args s = true ∧ True :=
  ⟨va_cnB k hB (wsM_good hcode) rfl rfl rfl (hK.nw hl) (hB _ hini) hd hR, hB _ hst, trivial⟩
theorem k_V {R : Room} {d : Nat} (hB : ∀ w ∈ BG, w.before args s = true) (hcode : Cond.code y b n ret ∈ BG) (hini : Cond.initialized y.cls ∈ BG) (hl : Cond.methodLink own index y ∈ BG) (hin : Cond.instanceMethod y ∈ BG) (hsel : Cond.selects C y y ∈ BG) (hd : y.cls ≠ "java/lang/invoke/MethodHandle" ∧ y.cls ≠ "java/lang/invoke/VarHandle" ∧ (parseMethodDescriptor y.desc).map (fun d => d.parameters.length) = some k) (hR : (rmH d).frames + 1 ≤ R.frames ∧ 8 + (n + 11) + (rmH d).locals ≤ R.locals) :
    CallW R s args own C index y b n ret (wsM y b n ret) (rmH d) 0 0 k :=
  ⟨callB_of k hB (wsM_good hcode) rfl rfl rfl (hB _ hini) (hB _ hl) hd hR, hB _ hin, hB _ hsel⟩
theorem lv_nm {v x : Int32} (ev : v = x) (kk : W p l e R s mi args below meth c H locs cells slots Q (F0 mi pc ls (.int v :: rest))) : W p l e R s mi args below meth c H locs cells slots Q (F0 mi pc ls (.int x :: rest)) := by subst ev; exact kk
theorem lv_nmL {v x : Int64} (ev : v = x) (kk : W p l e R s mi args below meth c H locs cells slots Q (F0 mi pc ls (.long v :: rest))) : W p l e R s mi args below meth c H locs cells slots Q (F0 mi pc ls (.long x :: rest)) := by subst ev; exact kk
end XK
theorem ob {α β : Type} {a : α} {f : α → Option β} {r : β} (h : (some a).bind f = some r) : ∃ v, v = a ∧ f v = some r := ⟨a, rfl, h⟩
theorem ob2 {α β : Type} {a : Option α} {f : α → Option β} {r : β} (h : a.bind f = some r) : ∃ v, a = some v ∧ f v = some r := Option.bind_eq_some_iff.mp h
end
section
def yJD_doubleToRawLongBits : MethodName := ⟨"java/lang/Double", "doubleToRawLongBits", "(D)J"⟩
abbrev RJD : String := "java/lang/Double"
abbrev cJD_isNaN : ByteArray := cJxe99ae_isNaN_b9ae7
abbrev yJD_isNaN : MethodName := yJxe99ae_isNaN_b9ae7
abbrev cJD_doubleToLongBits : ByteArray := cJxe99ae_doubleToLongBits_ccdee
abbrev yJD_doubleToLongBits : MethodName := yJxe99ae_doubleToLongBits_ccdee
theorem q_0 : Cond.selects RX4 yX4_codeAt yX4_codeAt ∈ BG := bg 0 (by decide +kernel) rfl
theorem q_1 : Cond.selects RX3 yX3_topUp yX3_topUp ∈ BG := bg 1 (by decide +kernel) rfl
theorem q_2 : Cond.selects RX3 yX3_hand yX3_hand ∈ BG := bg 2 (by decide +kernel) rfl
theorem q_4 : Cond.selects RX0 yX0_areAlike yX0_areAlike ∈ BG := bg 4 (by decide +kernel) rfl
theorem q_5 : Cond.selects RX4 yX4_withKind yX4_withKind ∈ BG := bg 5 (by decide +kernel) rfl
theorem q_6 : Cond.selects RX4 yX4_withComplaint yX4_withComplaint ∈ BG := bg 6 (by decide +kernel) rfl
theorem q_7 : Cond.selects RX4 yX4_withBuffer yX4_withBuffer ∈ BG := bg 7 (by decide +kernel) rfl
theorem q_8 : Cond.selects RX4 yX4_save yX4_save ∈ BG := bg 8 (by decide +kernel) rfl
theorem q_9 : Cond.selects RX4 yX4_savedAt yX4_savedAt ∈ BG := bg 9 (by decide +kernel) rfl
theorem q_10 : Cond.selects RX4 yX4_digitAt yX4_digitAt ∈ BG := bg 10 (by decide +kernel) rfl
theorem q_11 : Cond.selects RX5 yX5_fails yX5_fails ∈ BG := bg 11 (by decide +kernel) rfl
theorem q_12 : Cond.selects RX5 yX5_save yX5_save ∈ BG := bg 12 (by decide +kernel) rfl
theorem q_13 : Cond.selects RX5 yX5_isAmends yX5_isAmends ∈ BG := bg 13 (by decide +kernel) rfl
theorem q_14 : Cond.selects RX5 yX5_isOffered yX5_isOffered ∈ BG := bg 14 (by decide +kernel) rfl
theorem q_15 : Cond.selects RX5 yX5_offered yX5_offered ∈ BG := bg 15 (by decide +kernel) rfl
theorem q_16 : Cond.selects RX5 yX5_complainNow yX5_complainNow ∈ BG := bg 16 (by decide +kernel) rfl
theorem q_17 : Cond.selects RX5 yX5_isComplaint yX5_isComplaint ∈ BG := bg 17 (by decide +kernel) rfl
theorem q_18 : Cond.selects RX5 yX5_whyDecided yX5_whyDecided ∈ BG := bg 18 (by decide +kernel) rfl
theorem q_19 : Cond.selects RX5 yX5_fits yX5_fits ∈ BG := bg 19 (by decide +kernel) rfl
theorem q_20 : Cond.selects RX5 yX5_binds yX5_binds ∈ BG := bg 20 (by decide +kernel) rfl
theorem q_21 : Cond.selects RX5 yX5_latest yX5_latest ∈ BG := bg 21 (by decide +kernel) rfl
theorem q_22 : Cond.selects RX5 yX5_cost yX5_cost ∈ BG := bg 22 (by decide +kernel) rfl
theorem q_23 : Cond.selects RX5 yX5_left yX5_left ∈ BG := bg 23 (by decide +kernel) rfl
theorem q_24 : Cond.selects RX5 yX5_give yX5_give ∈ BG := bg 24 (by decide +kernel) rfl
theorem q_25 : Cond.selects RX5 yX5_setPrecedent yX5_setPrecedent ∈ BG := bg 25 (by decide +kernel) rfl
theorem q_26 : Cond.selects RX5 yX5_staged yX5_staged ∈ BG := bg 26 (by decide +kernel) rfl
theorem q_27 : Cond.selects RX5 yX5_whyJudged yX5_whyJudged ∈ BG := bg 27 (by decide +kernel) rfl
theorem q_28 : Cond.selects RX5 yX5_judgeNow yX5_judgeNow ∈ BG := bg 28 (by decide +kernel) rfl
theorem q_29 : Cond.selects RX5 yX5_topUps yX5_topUps ∈ BG := bg 29 (by decide +kernel) rfl
theorem q_30 : Cond.selects RX5 yX5_waitsFor yX5_waitsFor ∈ BG := bg 30 (by decide +kernel) rfl
theorem q_31 : Cond.selects RX5 yX5_closeNow yX5_closeNow ∈ BG := bg 31 (by decide +kernel) rfl
theorem q_32 : Cond.selects RX5 yX5_isText yX5_isText ∈ BG := bg 32 (by decide +kernel) rfl
theorem q_33 : Cond.selects RX5 yX5_isOne yX5_isOne ∈ BG := bg 33 (by decide +kernel) rfl
theorem q_34 : Cond.selects RX5 yX5_takes yX5_takes ∈ BG := bg 34 (by decide +kernel) rfl
theorem q_35 : Cond.selects RX5 yX5_digit yX5_digit ∈ BG := bg 35 (by decide +kernel) rfl
theorem q_36 : Cond.selects RX5 yX5_complaintOf yX5_complaintOf ∈ BG := bg 36 (by decide +kernel) rfl
theorem q_37 : Cond.selects RX5 yX5_amendsOf yX5_amendsOf ∈ BG := bg 37 (by decide +kernel) rfl
theorem q_38 : Cond.selects RX5 yX5_having yX5_having ∈ BG := bg 38 (by decide +kernel) rfl
theorem q_39 : Cond.selects RX5 yX5_precedentOf yX5_precedentOf ∈ BG := bg 39 (by decide +kernel) rfl
theorem q_40 : Cond.selects RX5 yX5_following yX5_following ∈ BG := bg 40 (by decide +kernel) rfl
theorem q_41 : Cond.selects RX5 yX5_kindOf yX5_kindOf ∈ BG := bg 41 (by decide +kernel) rfl
theorem q_42 : Cond.selects RX5 yX5_ofComplaints yX5_ofComplaints ∈ BG := bg 42 (by decide +kernel) rfl
theorem q_43 : Cond.selects RX5 yX5_counted yX5_counted ∈ BG := bg 43 (by decide +kernel) rfl
theorem q_44 : Cond.selects RX5 yX5_departing yX5_departing ∈ BG := bg 44 (by decide +kernel) rfl
theorem q_45 : Cond.selects RX5 yX5_unequal yX5_unequal ∈ BG := bg 45 (by decide +kernel) rfl
theorem q_46 : Cond.selects RX5 yX5_customerAt yX5_customerAt ∈ BG := bg 46 (by decide +kernel) rfl
theorem q_47 : Cond.selects RX5 yX5_why yX5_why ∈ BG := bg 47 (by decide +kernel) rfl
theorem q_48 : Cond.selects RX5 yX5_fairOf yX5_fairOf ∈ BG := bg 48 (by decide +kernel) rfl
theorem q_49 : Cond.selects RX5 yX5_judgedOf yX5_judgedOf ∈ BG := bg 49 (by decide +kernel) rfl
theorem q_50 : Cond.selects RX5 yX5_putAside yX5_putAside ∈ BG := bg 50 (by decide +kernel) rfl
theorem q_51 : Cond.selects RX5 yX5_putBack yX5_putBack ∈ BG := bg 51 (by decide +kernel) rfl
theorem q_52 : Cond.selects RX5 yX5_monthsOf yX5_monthsOf ∈ BG := bg 52 (by decide +kernel) rfl
theorem q_53 : Cond.selects RX5 yX5_shareOf yX5_shareOf ∈ BG := bg 53 (by decide +kernel) rfl
theorem q_54 : Cond.selects RX5 yX5_mix yX5_mix ∈ BG := bg 54 (by decide +kernel) rfl
theorem q_55 : Cond.selects RX5 yX5_mixKind yX5_mixKind ∈ BG := bg 55 (by decide +kernel) rfl
theorem q_56 : Cond.selects RX5 yX5_mixComplaint yX5_mixComplaint ∈ BG := bg 56 (by decide +kernel) rfl
theorem q_58 : Cond.initialized RX4 ∈ BG := bg 58 (by decide +kernel) rfl
theorem q_59 : Cond.initialized RX3 ∈ BG := bg 59 (by decide +kernel) rfl
theorem q_60 : Cond.initialized RX1 ∈ BG := bg 60 (by decide +kernel) rfl
theorem q_61 : Cond.initialized RX0 ∈ BG := bg 61 (by decide +kernel) rfl
theorem q_62 : Cond.initialized RX2 ∈ BG := bg 62 (by decide +kernel) rfl
theorem q_64 : Cond.initialized "java/lang/Math" ∈ BG := bg 64 (by decide +kernel) rfl
theorem q_65 : Cond.initialized "java/lang/System" ∈ BG := bg 65 (by decide +kernel) rfl
theorem q_66 : Cond.initialized RX5 ∈ BG := bg 66 (by decide +kernel) rfl
theorem q_74 : Cond.initialized RJD ∈ BG := bg 74 (by decide +kernel) rfl
theorem q_95 : Cond.fieldLink RX1 9 "AmendsLedger$Menus" "sizes" "[I" ∈ BG := bg 95 (by decide +kernel) rfl
theorem q_96 : Cond.fieldLink RX1 15 "AmendsLedger$Menus" "costs" "[I" ∈ BG := bg 96 (by decide +kernel) rfl
theorem q_97 : Cond.fieldLink RX1 18 "AmendsLedger$Menus" "leasts" "[I" ∈ BG := bg 97 (by decide +kernel) rfl
theorem q_98 : Cond.fieldLink RX1 21 "AmendsLedger$Menus" "mosts" "[I" ∈ BG := bg 98 (by decide +kernel) rfl
theorem q_99 : Cond.fieldLink RX1 24 "AmendsLedger$Menus" "offers" "[I" ∈ BG := bg 99 (by decide +kernel) rfl
theorem q_118 : Cond.fieldLink RX0 39 "AmendsLedger$Complaints" "size" "I" ∈ BG := bg 118 (by decide +kernel) rfl
theorem q_121 : Cond.fieldLink RX0 9 "AmendsLedger$Complaints" "kinds" "[I" ∈ BG := bg 121 (by decide +kernel) rfl
theorem q_122 : Cond.fieldLink RX0 15 "AmendsLedger$Complaints" "severities" "[I" ∈ BG := bg 122 (by decide +kernel) rfl
theorem q_123 : Cond.fieldLink RX0 18 "AmendsLedger$Complaints" "customers" "[I" ∈ BG := bg 123 (by decide +kernel) rfl
theorem q_124 : Cond.fieldLink RX0 21 "AmendsLedger$Complaints" "stages" "[I" ∈ BG := bg 124 (by decide +kernel) rfl
theorem q_125 : Cond.fieldLink RX0 24 "AmendsLedger$Complaints" "amendsHad" "[I" ∈ BG := bg 125 (by decide +kernel) rfl
theorem q_126 : Cond.fieldLink RX0 27 "AmendsLedger$Complaints" "got" "[I" ∈ BG := bg 126 (by decide +kernel) rfl
theorem q_127 : Cond.fieldLink RX0 30 "AmendsLedger$Complaints" "reasons" "[I" ∈ BG := bg 127 (by decide +kernel) rfl
theorem q_128 : Cond.fieldLink RX0 33 "AmendsLedger$Complaints" "months" "[I" ∈ BG := bg 128 (by decide +kernel) rfl
theorem q_129 : Cond.fieldLink RX0 36 "AmendsLedger$Complaints" "followed" "[I" ∈ BG := bg 129 (by decide +kernel) rfl
theorem q_160 : Cond.fieldLink RX2 30 "AmendsLedger$Precedents" "size" "I" ∈ BG := bg 160 (by decide +kernel) rfl
theorem q_162 : Cond.fieldLink RX2 9 "AmendsLedger$Precedents" "amendsHeld" "[I" ∈ BG := bg 162 (by decide +kernel) rfl
theorem q_163 : Cond.fieldLink RX2 15 "AmendsLedger$Precedents" "months" "[I" ∈ BG := bg 163 (by decide +kernel) rfl
theorem q_164 : Cond.fieldLink RX2 18 "AmendsLedger$Precedents" "setters" "[I" ∈ BG := bg 164 (by decide +kernel) rfl
theorem q_165 : Cond.fieldLink RX2 21 "AmendsLedger$Precedents" "latest" "[I" ∈ BG := bg 165 (by decide +kernel) rfl
theorem q_180 : Cond.static yX4_copyAll ∈ BG := bg 180 (by decide +kernel) rfl
theorem q_181 : Cond.code yX4_copyAll cX4_copyAll 2 none ∈ BG := bg 181 (by decide +kernel) rfl
theorem q_182 : Cond.methodLink RX4 327 Lib.Math.min.name ∈ BG := bg 182 (by decide +kernel) rfl
theorem q_183 : Cond.static Lib.Math.min.name ∈ BG := bg 183 (by decide +kernel) rfl
theorem q_184 : Cond.code Lib.Math.min.name Lib.Math.min.code 2 (some .int) ∈ BG := bg 184 (by decide +kernel) rfl
theorem q_185 : Cond.methodLink RX4 332 ⟨"java/lang/System", "arraycopy", "(Ljava/lang/Object;ILjava/lang/Object;II)V"⟩ ∈ BG := bg 185 (by decide +kernel) rfl
theorem q_186 : Cond.static ⟨"java/lang/System", "arraycopy", "(Ljava/lang/Object;ILjava/lang/Object;II)V"⟩ ∈ BG := bg 186 (by decide +kernel) rfl
theorem q_187 : Cond.native ⟨"java/lang/System", "arraycopy", "(Ljava/lang/Object;ILjava/lang/Object;II)V"⟩ ∈ BG := bg 187 (by decide +kernel) rfl
theorem q_189 : Cond.fieldLink RX3 12 "AmendsLedger$State" "menus" "LAmendsLedger$Menus;" ∈ BG := bg 189 (by decide +kernel) rfl
theorem q_191 : Cond.fieldLink RX3 21 "AmendsLedger$State" "complaints" "LAmendsLedger$Complaints;" ∈ BG := bg 191 (by decide +kernel) rfl
theorem q_193 : Cond.fieldLink RX3 28 "AmendsLedger$State" "precedents" "LAmendsLedger$Precedents;" ∈ BG := bg 193 (by decide +kernel) rfl
theorem q_195 : Cond.fieldLink RX3 32 "AmendsLedger$State" "settings" "[I" ∈ BG := bg 195 (by decide +kernel) rfl
theorem q_196 : Cond.fieldLink RX3 36 "AmendsLedger$State" "bases" "[I" ∈ BG := bg 196 (by decide +kernel) rfl
theorem q_197 : Cond.fieldLink RX3 39 "AmendsLedger$State" "budgets" "[I" ∈ BG := bg 197 (by decide +kernel) rfl
theorem q_198 : Cond.fieldLink RX3 42 "AmendsLedger$State" "spent" "[I" ∈ BG := bg 198 (by decide +kernel) rfl
theorem q_199 : Cond.fieldLink RX3 68 "AmendsLedger$State" "month" "I" ∈ BG := bg 199 (by decide +kernel) rfl
theorem q_219 : Cond.fieldLink RX4 10 "AmendsLedger" "now" "LAmendsLedger$State;" ∈ BG := bg 219 (by decide +kernel) rfl
theorem q_220 : Cond.fieldLink RX4 16 "AmendsLedger" "trial" "LAmendsLedger$State;" ∈ BG := bg 220 (by decide +kernel) rfl
theorem q_221 : Cond.fieldLink RX4 19 "AmendsLedger" "saved" "[LAmendsLedger$State;" ∈ BG := bg 221 (by decide +kernel) rfl
theorem q_222 : Cond.fieldLink RX4 147 "AmendsLedger" "savedCount" "I" ∈ BG := bg 222 (by decide +kernel) rfl
theorem q_223 : Cond.fieldLink RX4 150 "AmendsLedger" "savedNext" "I" ∈ BG := bg 223 (by decide +kernel) rfl
theorem q_224 : Cond.fieldLink RX4 23 "AmendsLedger" "buffer" "[I" ∈ BG := bg 224 (by decide +kernel) rfl
theorem q_225 : Cond.fieldLink RX4 132 "AmendsLedger" "length" "I" ∈ BG := bg 225 (by decide +kernel) rfl
theorem q_246 : Cond.instanceMethod yX4_firstError ∈ BG := bg 246 (by decide +kernel) rfl
theorem q_247 : Cond.selects RX4 yX4_firstError yX4_firstError ∈ BG := bg 247 (by decide +kernel) rfl
theorem q_248 : Cond.code yX4_firstError cX4_firstError 2 (some .int) ∈ BG := bg 248 (by decide +kernel) rfl
theorem q_249 : Cond.methodLink RX4 135 yX4_codeAt ∈ BG := bg 249 (by decide +kernel) rfl
theorem q_251 : Cond.instanceMethod yX4_codeAt ∈ BG := bg 251 (by decide +kernel) rfl
theorem q_252 : Cond.code yX4_codeAt cX4_codeAt 2 (some .int) ∈ BG := bg 252 (by decide +kernel) rfl
theorem q_253 : Cond.methodLink RX4 35 yX4_isWithin ∈ BG := bg 253 (by decide +kernel) rfl
theorem q_254 : Cond.static yX4_isWithin ∈ BG := bg 254 (by decide +kernel) rfl
theorem q_255 : Cond.code yX4_isWithin cX4_isWithin 3 (some .boolean) ∈ BG := bg 255 (by decide +kernel) rfl
theorem q_256 : Cond.methodLink RX4 138 yX4_fitsPlace ∈ BG := bg 256 (by decide +kernel) rfl
theorem q_257 : Cond.static yX4_fitsPlace ∈ BG := bg 257 (by decide +kernel) rfl
theorem q_258 : Cond.code yX4_fitsPlace cX4_fitsPlace 2 (some .boolean) ∈ BG := bg 258 (by decide +kernel) rfl
theorem q_260 : Cond.instanceMethod yX4_monthsToEqual ∈ BG := bg 260 (by decide +kernel) rfl
theorem q_261 : Cond.selects RX4 yX4_monthsToEqual yX4_monthsToEqual ∈ BG := bg 261 (by decide +kernel) rfl
theorem q_262 : Cond.code yX4_monthsToEqual cX4_monthsToEqual 2 (some .int) ∈ BG := bg 262 (by decide +kernel) rfl
theorem q_263 : Cond.methodLink RX4 228 yX3_waiting ∈ BG := bg 263 (by decide +kernel) rfl
theorem q_264 : Cond.instanceMethod yX3_waiting ∈ BG := bg 264 (by decide +kernel) rfl
theorem q_265 : Cond.selects RX3 yX3_waiting yX3_waiting ∈ BG := bg 265 (by decide +kernel) rfl
theorem q_266 : Cond.code yX3_waiting cX3_waiting 3 (some .int) ∈ BG := bg 266 (by decide +kernel) rfl
theorem q_267 : Cond.methodLink RX3 177 yX3_owedTo ∈ BG := bg 267 (by decide +kernel) rfl
theorem q_268 : Cond.instanceMethod yX3_owedTo ∈ BG := bg 268 (by decide +kernel) rfl
theorem q_269 : Cond.selects RX3 yX3_owedTo yX3_owedTo ∈ BG := bg 269 (by decide +kernel) rfl
theorem q_270 : Cond.code yX3_owedTo cX3_owedTo 4 (some .int) ∈ BG := bg 270 (by decide +kernel) rfl
theorem q_271 : Cond.methodLink RX3 115 yX0_followedBy ∈ BG := bg 271 (by decide +kernel) rfl
theorem q_272 : Cond.instanceMethod yX0_followedBy ∈ BG := bg 272 (by decide +kernel) rfl
theorem q_273 : Cond.selects RX0 yX0_followedBy yX0_followedBy ∈ BG := bg 273 (by decide +kernel) rfl
theorem q_274 : Cond.code yX0_followedBy cX0_followedBy 2 (some .int) ∈ BG := bg 274 (by decide +kernel) rfl
theorem q_275 : Cond.methodLink RX0 47 yX0_has ∈ BG := bg 275 (by decide +kernel) rfl
theorem q_276 : Cond.instanceMethod yX0_has ∈ BG := bg 276 (by decide +kernel) rfl
theorem q_277 : Cond.selects RX0 yX0_has yX0_has ∈ BG := bg 277 (by decide +kernel) rfl
theorem q_278 : Cond.code yX0_has cX0_has 2 (some .boolean) ∈ BG := bg 278 (by decide +kernel) rfl
theorem q_279 : Cond.methodLink RX3 86 yX2_has ∈ BG := bg 279 (by decide +kernel) rfl
theorem q_280 : Cond.instanceMethod yX2_has ∈ BG := bg 280 (by decide +kernel) rfl
theorem q_281 : Cond.selects RX2 yX2_has yX2_has ∈ BG := bg 281 (by decide +kernel) rfl
theorem q_282 : Cond.code yX2_has cX2_has 2 (some .boolean) ∈ BG := bg 282 (by decide +kernel) rfl
theorem q_283 : Cond.methodLink RX3 99 yX0_kindOf ∈ BG := bg 283 (by decide +kernel) rfl
theorem q_284 : Cond.instanceMethod yX0_kindOf ∈ BG := bg 284 (by decide +kernel) rfl
theorem q_285 : Cond.selects RX0 yX0_kindOf yX0_kindOf ∈ BG := bg 285 (by decide +kernel) rfl
theorem q_286 : Cond.code yX0_kindOf cX0_kindOf 2 (some .int) ∈ BG := bg 286 (by decide +kernel) rfl
theorem q_287 : Cond.methodLink RX3 92 yX2_amendsOf ∈ BG := bg 287 (by decide +kernel) rfl
theorem q_288 : Cond.instanceMethod yX2_amendsOf ∈ BG := bg 288 (by decide +kernel) rfl
theorem q_289 : Cond.selects RX2 yX2_amendsOf yX2_amendsOf ∈ BG := bg 289 (by decide +kernel) rfl
theorem q_290 : Cond.code yX2_amendsOf cX2_amendsOf 2 (some .int) ∈ BG := bg 290 (by decide +kernel) rfl
theorem q_291 : Cond.methodLink RX2 45 yX2_has ∈ BG := bg 291 (by decide +kernel) rfl
theorem q_292 : Cond.methodLink RX3 137 yX1_costOf ∈ BG := bg 292 (by decide +kernel) rfl
theorem q_293 : Cond.instanceMethod yX1_costOf ∈ BG := bg 293 (by decide +kernel) rfl
theorem q_294 : Cond.selects RX1 yX1_costOf yX1_costOf ∈ BG := bg 294 (by decide +kernel) rfl
theorem q_295 : Cond.code yX1_costOf cX1_costOf 3 (some .int) ∈ BG := bg 295 (by decide +kernel) rfl
theorem q_296 : Cond.methodLink RX1 35 yX1_has ∈ BG := bg 296 (by decide +kernel) rfl
theorem q_297 : Cond.instanceMethod yX1_has ∈ BG := bg 297 (by decide +kernel) rfl
theorem q_298 : Cond.selects RX1 yX1_has yX1_has ∈ BG := bg 298 (by decide +kernel) rfl
theorem q_299 : Cond.code yX1_has cX1_has 3 (some .boolean) ∈ BG := bg 299 (by decide +kernel) rfl
theorem q_301 : Cond.static yX4_isKind ∈ BG := bg 301 (by decide +kernel) rfl
theorem q_302 : Cond.code yX4_isKind cX4_isKind 1 (some .boolean) ∈ BG := bg 302 (by decide +kernel) rfl
theorem q_303 : Cond.methodLink RX3 155 yX0_gotOf ∈ BG := bg 303 (by decide +kernel) rfl
theorem q_304 : Cond.instanceMethod yX0_gotOf ∈ BG := bg 304 (by decide +kernel) rfl
theorem q_305 : Cond.selects RX0 yX0_gotOf yX0_gotOf ∈ BG := bg 305 (by decide +kernel) rfl
theorem q_306 : Cond.code yX0_gotOf cX0_gotOf 2 (some .int) ∈ BG := bg 306 (by decide +kernel) rfl
theorem q_307 : Cond.methodLink RX3 172 Lib.Math.max.name ∈ BG := bg 307 (by decide +kernel) rfl
theorem q_308 : Cond.static Lib.Math.max.name ∈ BG := bg 308 (by decide +kernel) rfl
theorem q_309 : Cond.code Lib.Math.max.name Lib.Math.max.code 2 (some .int) ∈ BG := bg 309 (by decide +kernel) rfl
theorem q_310 : Cond.methodLink RX4 157 yX3_copyFrom ∈ BG := bg 310 (by decide +kernel) rfl
theorem q_311 : Cond.instanceMethod yX3_copyFrom ∈ BG := bg 311 (by decide +kernel) rfl
theorem q_312 : Cond.selects RX3 yX3_copyFrom yX3_copyFrom ∈ BG := bg 312 (by decide +kernel) rfl
theorem q_313 : Cond.code yX3_copyFrom cX3_copyFrom 2 none ∈ BG := bg 313 (by decide +kernel) rfl
theorem q_314 : Cond.methodLink RX3 58 yX1_copyFrom ∈ BG := bg 314 (by decide +kernel) rfl
theorem q_315 : Cond.instanceMethod yX1_copyFrom ∈ BG := bg 315 (by decide +kernel) rfl
theorem q_316 : Cond.selects RX1 yX1_copyFrom yX1_copyFrom ∈ BG := bg 316 (by decide +kernel) rfl
theorem q_317 : Cond.code yX1_copyFrom cX1_copyFrom 2 none ∈ BG := bg 317 (by decide +kernel) rfl
theorem q_319 : Cond.methodLink RX3 62 yX0_copyFrom ∈ BG := bg 319 (by decide +kernel) rfl
theorem q_320 : Cond.instanceMethod yX0_copyFrom ∈ BG := bg 320 (by decide +kernel) rfl
theorem q_321 : Cond.selects RX0 yX0_copyFrom yX0_copyFrom ∈ BG := bg 321 (by decide +kernel) rfl
theorem q_322 : Cond.code yX0_copyFrom cX0_copyFrom 2 none ∈ BG := bg 322 (by decide +kernel) rfl
theorem q_324 : Cond.methodLink RX3 65 yX2_copyFrom ∈ BG := bg 324 (by decide +kernel) rfl
theorem q_325 : Cond.instanceMethod yX2_copyFrom ∈ BG := bg 325 (by decide +kernel) rfl
theorem q_326 : Cond.selects RX2 yX2_copyFrom yX2_copyFrom ∈ BG := bg 326 (by decide +kernel) rfl
theorem q_327 : Cond.code yX2_copyFrom cX2_copyFrom 2 none ∈ BG := bg 327 (by decide +kernel) rfl
theorem q_329 : Cond.methodLink RX4 128 yX3_turnMonth ∈ BG := bg 329 (by decide +kernel) rfl
theorem q_330 : Cond.instanceMethod yX3_turnMonth ∈ BG := bg 330 (by decide +kernel) rfl
theorem q_331 : Cond.selects RX3 yX3_turnMonth yX3_turnMonth ∈ BG := bg 331 (by decide +kernel) rfl
theorem q_332 : Cond.code yX3_turnMonth cX3_turnMonth 3 (some .int) ∈ BG := bg 332 (by decide +kernel) rfl
theorem q_333 : Cond.methodLink RX3 140 yX3_leftOf ∈ BG := bg 333 (by decide +kernel) rfl
theorem q_334 : Cond.instanceMethod yX3_leftOf ∈ BG := bg 334 (by decide +kernel) rfl
theorem q_335 : Cond.selects RX3 yX3_leftOf yX3_leftOf ∈ BG := bg 335 (by decide +kernel) rfl
theorem q_336 : Cond.code yX3_leftOf cX3_leftOf 2 (some .int) ∈ BG := bg 336 (by decide +kernel) rfl
theorem q_338 : Cond.methodLink RX3 79 yX3_settingOf ∈ BG := bg 338 (by decide +kernel) rfl
theorem q_339 : Cond.instanceMethod yX3_settingOf ∈ BG := bg 339 (by decide +kernel) rfl
theorem q_340 : Cond.selects RX3 yX3_settingOf yX3_settingOf ∈ BG := bg 340 (by decide +kernel) rfl
theorem q_341 : Cond.code yX3_settingOf cX3_settingOf 2 (some .int) ∈ BG := bg 341 (by decide +kernel) rfl
theorem q_343 : Cond.static yX4_isSetting ∈ BG := bg 343 (by decide +kernel) rfl
theorem q_344 : Cond.code yX4_isSetting cX4_isSetting 1 (some .boolean) ∈ BG := bg 344 (by decide +kernel) rfl
theorem q_345 : Cond.methodLink RX3 169 yX3_topUp ∈ BG := bg 345 (by decide +kernel) rfl
theorem q_347 : Cond.instanceMethod yX3_topUp ∈ BG := bg 347 (by decide +kernel) rfl
theorem q_348 : Cond.code yX3_topUp cX3_topUp 3 (some .int) ∈ BG := bg 348 (by decide +kernel) rfl
theorem q_349 : Cond.methodLink RX3 143 yX3_hand ∈ BG := bg 349 (by decide +kernel) rfl
theorem q_351 : Cond.instanceMethod yX3_hand ∈ BG := bg 351 (by decide +kernel) rfl
theorem q_352 : Cond.code yX3_hand cX3_hand 5 none ∈ BG := bg 352 (by decide +kernel) rfl
theorem q_353 : Cond.methodLink RX3 158 yX0_give ∈ BG := bg 353 (by decide +kernel) rfl
theorem q_354 : Cond.instanceMethod yX0_give ∈ BG := bg 354 (by decide +kernel) rfl
theorem q_355 : Cond.selects RX0 yX0_give yX0_give ∈ BG := bg 355 (by decide +kernel) rfl
theorem q_356 : Cond.code yX0_give cX0_give 4 none ∈ BG := bg 356 (by decide +kernel) rfl
theorem q_358 : Cond.instanceMethod yX4_followShare ∈ BG := bg 358 (by decide +kernel) rfl
theorem q_359 : Cond.selects RX4 yX4_followShare yX4_followShare ∈ BG := bg 359 (by decide +kernel) rfl
theorem q_360 : Cond.code yX4_followShare cX4_followShare 2 (some .double) ∈ BG := bg 360 (by decide +kernel) rfl
theorem q_361 : Cond.methodLink RX4 116 yX0_inStage ∈ BG := bg 361 (by decide +kernel) rfl
theorem q_362 : Cond.instanceMethod yX0_inStage ∈ BG := bg 362 (by decide +kernel) rfl
theorem q_363 : Cond.selects RX0 yX0_inStage yX0_inStage ∈ BG := bg 363 (by decide +kernel) rfl
theorem q_364 : Cond.code yX0_inStage cX0_inStage 4 (some .int) ∈ BG := bg 364 (by decide +kernel) rfl
theorem q_365 : Cond.methodLink RX0 51 yX0_stageOf ∈ BG := bg 365 (by decide +kernel) rfl
theorem q_366 : Cond.instanceMethod yX0_stageOf ∈ BG := bg 366 (by decide +kernel) rfl
theorem q_367 : Cond.selects RX0 yX0_stageOf yX0_stageOf ∈ BG := bg 367 (by decide +kernel) rfl
theorem q_368 : Cond.code yX0_stageOf cX0_stageOf 2 (some .int) ∈ BG := bg 368 (by decide +kernel) rfl
theorem q_369 : Cond.methodLink RX4 231 yX3_departing ∈ BG := bg 369 (by decide +kernel) rfl
theorem q_370 : Cond.instanceMethod yX3_departing ∈ BG := bg 370 (by decide +kernel) rfl
theorem q_371 : Cond.selects RX3 yX3_departing yX3_departing ∈ BG := bg 371 (by decide +kernel) rfl
theorem q_372 : Cond.code yX3_departing cX3_departing 3 (some .int) ∈ BG := bg 372 (by decide +kernel) rfl
theorem q_373 : Cond.methodLink RX3 124 yX3_tieOf ∈ BG := bg 373 (by decide +kernel) rfl
theorem q_374 : Cond.instanceMethod yX3_tieOf ∈ BG := bg 374 (by decide +kernel) rfl
theorem q_375 : Cond.selects RX3 yX3_tieOf yX3_tieOf ∈ BG := bg 375 (by decide +kernel) rfl
theorem q_376 : Cond.code yX3_tieOf cX3_tieOf 3 (some .int) ∈ BG := bg 376 (by decide +kernel) rfl
theorem q_377 : Cond.methodLink RX3 112 yX0_stageOf ∈ BG := bg 377 (by decide +kernel) rfl
theorem q_378 : Cond.methodLink RX3 118 yX2_setterOf ∈ BG := bg 378 (by decide +kernel) rfl
theorem q_379 : Cond.instanceMethod yX2_setterOf ∈ BG := bg 379 (by decide +kernel) rfl
theorem q_380 : Cond.selects RX2 yX2_setterOf yX2_setterOf ∈ BG := bg 380 (by decide +kernel) rfl
theorem q_381 : Cond.code yX2_setterOf cX2_setterOf 2 (some .int) ∈ BG := bg 381 (by decide +kernel) rfl
theorem q_386 : Cond.constantLong RX4 250 (2539) ∈ BG := bg 386 (by decide +kernel) rfl
theorem q_387 : Cond.constantLong RX4 252 (31) ∈ BG := bg 387 (by decide +kernel) rfl
theorem q_388 : Cond.methodLink RX4 254 yX4_count ∈ BG := bg 388 (by decide +kernel) rfl
theorem q_389 : Cond.instanceMethod yX4_count ∈ BG := bg 389 (by decide +kernel) rfl
theorem q_390 : Cond.selects RX4 yX4_count yX4_count ∈ BG := bg 390 (by decide +kernel) rfl
theorem q_391 : Cond.code yX4_count cX4_count 2 (some .int) ∈ BG := bg 391 (by decide +kernel) rfl
theorem q_392 : Cond.methodLink RX4 39 yX4_requireArgument ∈ BG := bg 392 (by decide +kernel) rfl
theorem q_393 : Cond.static yX4_requireArgument ∈ BG := bg 393 (by decide +kernel) rfl
theorem q_394 : Cond.code yX4_requireArgument cX4_requireArgument 1 none ∈ BG := bg 394 (by decide +kernel) rfl
theorem q_458 : Cond.methodLink RX4 225 yX0_gotInAll ∈ BG := bg 458 (by decide +kernel) rfl
theorem q_459 : Cond.instanceMethod yX0_gotInAll ∈ BG := bg 459 (by decide +kernel) rfl
theorem q_460 : Cond.selects RX0 yX0_gotInAll yX0_gotInAll ∈ BG := bg 460 (by decide +kernel) rfl
theorem q_461 : Cond.code yX0_gotInAll cX0_gotInAll 3 (some .int) ∈ BG := bg 461 (by decide +kernel) rfl
theorem q_462 : Cond.methodLink RX0 70 yX0_gotInKind ∈ BG := bg 462 (by decide +kernel) rfl
theorem q_463 : Cond.instanceMethod yX0_gotInKind ∈ BG := bg 463 (by decide +kernel) rfl
theorem q_464 : Cond.selects RX0 yX0_gotInKind yX0_gotInKind ∈ BG := bg 464 (by decide +kernel) rfl
theorem q_465 : Cond.code yX0_gotInKind cX0_gotInKind 4 (some .int) ∈ BG := bg 465 (by decide +kernel) rfl
theorem q_466 : Cond.methodLink RX0 55 yX0_kindOf ∈ BG := bg 466 (by decide +kernel) rfl
theorem q_467 : Cond.methodLink RX0 67 yX0_gotOf ∈ BG := bg 467 (by decide +kernel) rfl
theorem q_468 : Cond.methodLink RX4 235 yX0_unequalPairs ∈ BG := bg 468 (by decide +kernel) rfl
theorem q_469 : Cond.instanceMethod yX0_unequalPairs ∈ BG := bg 469 (by decide +kernel) rfl
theorem q_470 : Cond.selects RX0 yX0_unequalPairs yX0_unequalPairs ∈ BG := bg 470 (by decide +kernel) rfl
theorem q_471 : Cond.code yX0_unequalPairs cX0_unequalPairs 4 (some .int) ∈ BG := bg 471 (by decide +kernel) rfl
theorem q_472 : Cond.methodLink RX0 73 yX0_areAlike ∈ BG := bg 472 (by decide +kernel) rfl
theorem q_474 : Cond.instanceMethod yX0_areAlike ∈ BG := bg 474 (by decide +kernel) rfl
theorem q_475 : Cond.code yX0_areAlike cX0_areAlike 3 (some .boolean) ∈ BG := bg 475 (by decide +kernel) rfl
theorem q_476 : Cond.methodLink RX0 61 yX0_followedBy ∈ BG := bg 476 (by decide +kernel) rfl
theorem q_477 : Cond.methodLink RX4 257 yX4_setting ∈ BG := bg 477 (by decide +kernel) rfl
theorem q_478 : Cond.instanceMethod yX4_setting ∈ BG := bg 478 (by decide +kernel) rfl
theorem q_479 : Cond.selects RX4 yX4_setting yX4_setting ∈ BG := bg 479 (by decide +kernel) rfl
theorem q_480 : Cond.code yX4_setting cX4_setting 2 (some .int) ∈ BG := bg 480 (by decide +kernel) rfl
theorem q_481 : Cond.methodLink RX4 76 yX4_isSetting ∈ BG := bg 481 (by decide +kernel) rfl
theorem q_482 : Cond.methodLink RX4 31 yX4_requireIndex ∈ BG := bg 482 (by decide +kernel) rfl
theorem q_483 : Cond.static yX4_requireIndex ∈ BG := bg 483 (by decide +kernel) rfl
theorem q_484 : Cond.code yX4_requireIndex cX4_requireIndex 1 none ∈ BG := bg 484 (by decide +kernel) rfl
theorem q_500 : Cond.methodLink RX4 238 yX3_settingOf ∈ BG := bg 500 (by decide +kernel) rfl
theorem q_501 : Cond.methodLink RX4 260 yX4_withKind ∈ BG := bg 501 (by decide +kernel) rfl
theorem q_503 : Cond.instanceMethod yX4_withKind ∈ BG := bg 503 (by decide +kernel) rfl
theorem q_504 : Cond.code yX4_withKind cX4_withKind 8 (some .long) ∈ BG := bg 504 (by decide +kernel) rfl
theorem q_505 : Cond.methodLink RX4 294 yX4_kind ∈ BG := bg 505 (by decide +kernel) rfl
theorem q_506 : Cond.instanceMethod yX4_kind ∈ BG := bg 506 (by decide +kernel) rfl
theorem q_507 : Cond.selects RX4 yX4_kind yX4_kind ∈ BG := bg 507 (by decide +kernel) rfl
theorem q_508 : Cond.code yX4_kind cX4_kind 3 (some .int) ∈ BG := bg 508 (by decide +kernel) rfl
theorem q_509 : Cond.methodLink RX4 27 yX4_isKind ∈ BG := bg 509 (by decide +kernel) rfl
theorem q_510 : Cond.methodLink RX4 204 yX3_baseOf ∈ BG := bg 510 (by decide +kernel) rfl
theorem q_511 : Cond.instanceMethod yX3_baseOf ∈ BG := bg 511 (by decide +kernel) rfl
theorem q_512 : Cond.selects RX3 yX3_baseOf yX3_baseOf ∈ BG := bg 512 (by decide +kernel) rfl
theorem q_513 : Cond.code yX3_baseOf cX3_baseOf 2 (some .int) ∈ BG := bg 513 (by decide +kernel) rfl
theorem q_514 : Cond.methodLink RX4 207 yX3_budgetOf ∈ BG := bg 514 (by decide +kernel) rfl
theorem q_515 : Cond.instanceMethod yX3_budgetOf ∈ BG := bg 515 (by decide +kernel) rfl
theorem q_516 : Cond.selects RX3 yX3_budgetOf yX3_budgetOf ∈ BG := bg 516 (by decide +kernel) rfl
theorem q_517 : Cond.code yX3_budgetOf cX3_budgetOf 2 (some .int) ∈ BG := bg 517 (by decide +kernel) rfl
theorem q_518 : Cond.methodLink RX4 210 yX3_spentOf ∈ BG := bg 518 (by decide +kernel) rfl
theorem q_519 : Cond.instanceMethod yX3_spentOf ∈ BG := bg 519 (by decide +kernel) rfl
theorem q_520 : Cond.selects RX3 yX3_spentOf yX3_spentOf ∈ BG := bg 520 (by decide +kernel) rfl
theorem q_521 : Cond.code yX3_spentOf cX3_spentOf 2 (some .int) ∈ BG := bg 521 (by decide +kernel) rfl
theorem q_522 : Cond.methodLink RX4 213 yX3_leftOf ∈ BG := bg 522 (by decide +kernel) rfl
theorem q_523 : Cond.methodLink RX4 46 yX1_sizeOf ∈ BG := bg 523 (by decide +kernel) rfl
theorem q_524 : Cond.instanceMethod yX1_sizeOf ∈ BG := bg 524 (by decide +kernel) rfl
theorem q_525 : Cond.selects RX1 yX1_sizeOf yX1_sizeOf ∈ BG := bg 525 (by decide +kernel) rfl
theorem q_526 : Cond.code yX1_sizeOf cX1_sizeOf 2 (some .int) ∈ BG := bg 526 (by decide +kernel) rfl
theorem q_527 : Cond.methodLink RX4 216 yX0_ofKind ∈ BG := bg 527 (by decide +kernel) rfl
theorem q_528 : Cond.instanceMethod yX0_ofKind ∈ BG := bg 528 (by decide +kernel) rfl
theorem q_529 : Cond.selects RX0 yX0_ofKind yX0_ofKind ∈ BG := bg 529 (by decide +kernel) rfl
theorem q_530 : Cond.code yX0_ofKind cX0_ofKind 4 (some .int) ∈ BG := bg 530 (by decide +kernel) rfl
theorem q_531 : Cond.methodLink RX4 219 yX0_gotInKind ∈ BG := bg 531 (by decide +kernel) rfl
theorem q_532 : Cond.methodLink RX4 222 yX3_owedInKind ∈ BG := bg 532 (by decide +kernel) rfl
theorem q_533 : Cond.instanceMethod yX3_owedInKind ∈ BG := bg 533 (by decide +kernel) rfl
theorem q_534 : Cond.selects RX3 yX3_owedInKind yX3_owedInKind ∈ BG := bg 534 (by decide +kernel) rfl
theorem q_535 : Cond.code yX3_owedInKind cX3_owedInKind 4 (some .int) ∈ BG := bg 535 (by decide +kernel) rfl
theorem q_536 : Cond.methodLink RX4 297 yX4_amends ∈ BG := bg 536 (by decide +kernel) rfl
theorem q_537 : Cond.instanceMethod yX4_amends ∈ BG := bg 537 (by decide +kernel) rfl
theorem q_538 : Cond.selects RX4 yX4_amends yX4_amends ∈ BG := bg 538 (by decide +kernel) rfl
theorem q_539 : Cond.code yX4_amends cX4_amends 4 (some .int) ∈ BG := bg 539 (by decide +kernel) rfl
theorem q_540 : Cond.methodLink RX4 62 yX1_has ∈ BG := bg 540 (by decide +kernel) rfl
theorem q_541 : Cond.methodLink RX4 164 yX1_costOf ∈ BG := bg 541 (by decide +kernel) rfl
theorem q_542 : Cond.methodLink RX4 167 yX1_leastOf ∈ BG := bg 542 (by decide +kernel) rfl
theorem q_543 : Cond.instanceMethod yX1_leastOf ∈ BG := bg 543 (by decide +kernel) rfl
theorem q_544 : Cond.selects RX1 yX1_leastOf yX1_leastOf ∈ BG := bg 544 (by decide +kernel) rfl
theorem q_545 : Cond.code yX1_leastOf cX1_leastOf 3 (some .int) ∈ BG := bg 545 (by decide +kernel) rfl
theorem q_546 : Cond.methodLink RX4 170 yX1_mostOf ∈ BG := bg 546 (by decide +kernel) rfl
theorem q_547 : Cond.instanceMethod yX1_mostOf ∈ BG := bg 547 (by decide +kernel) rfl
theorem q_548 : Cond.selects RX1 yX1_mostOf yX1_mostOf ∈ BG := bg 548 (by decide +kernel) rfl
theorem q_549 : Cond.code yX1_mostOf cX1_mostOf 3 (some .int) ∈ BG := bg 549 (by decide +kernel) rfl
theorem q_550 : Cond.methodLink RX4 66 yX1_isOffered ∈ BG := bg 550 (by decide +kernel) rfl
theorem q_551 : Cond.instanceMethod yX1_isOffered ∈ BG := bg 551 (by decide +kernel) rfl
theorem q_552 : Cond.selects RX1 yX1_isOffered yX1_isOffered ∈ BG := bg 552 (by decide +kernel) rfl
theorem q_553 : Cond.code yX1_isOffered cX1_isOffered 3 (some .boolean) ∈ BG := bg 553 (by decide +kernel) rfl
theorem q_554 : Cond.methodLink RX4 173 yX0_having ∈ BG := bg 554 (by decide +kernel) rfl
theorem q_555 : Cond.instanceMethod yX0_having ∈ BG := bg 555 (by decide +kernel) rfl
theorem q_556 : Cond.selects RX0 yX0_having yX0_having ∈ BG := bg 556 (by decide +kernel) rfl
theorem q_557 : Cond.code yX0_having cX0_having 5 (some .int) ∈ BG := bg 557 (by decide +kernel) rfl
theorem q_558 : Cond.methodLink RX0 58 yX0_amendsOf ∈ BG := bg 558 (by decide +kernel) rfl
theorem q_559 : Cond.instanceMethod yX0_amendsOf ∈ BG := bg 559 (by decide +kernel) rfl
theorem q_560 : Cond.selects RX0 yX0_amendsOf yX0_amendsOf ∈ BG := bg 560 (by decide +kernel) rfl
theorem q_561 : Cond.code yX0_amendsOf cX0_amendsOf 2 (some .int) ∈ BG := bg 561 (by decide +kernel) rfl
theorem q_562 : Cond.methodLink RX4 300 yX4_precedent ∈ BG := bg 562 (by decide +kernel) rfl
theorem q_563 : Cond.instanceMethod yX4_precedent ∈ BG := bg 563 (by decide +kernel) rfl
theorem q_564 : Cond.selects RX4 yX4_precedent yX4_precedent ∈ BG := bg 564 (by decide +kernel) rfl
theorem q_565 : Cond.code yX4_precedent cX4_precedent 5 (some .int) ∈ BG := bg 565 (by decide +kernel) rfl
theorem q_566 : Cond.methodLink RX4 176 yX4_isGroup ∈ BG := bg 566 (by decide +kernel) rfl
theorem q_567 : Cond.static yX4_isGroup ∈ BG := bg 567 (by decide +kernel) rfl
theorem q_568 : Cond.code yX4_isGroup cX4_isGroup 1 (some .boolean) ∈ BG := bg 568 (by decide +kernel) rfl
theorem q_569 : Cond.methodLink RX4 183 yX2_latestOf ∈ BG := bg 569 (by decide +kernel) rfl
theorem q_570 : Cond.instanceMethod yX2_latestOf ∈ BG := bg 570 (by decide +kernel) rfl
theorem q_571 : Cond.selects RX2 yX2_latestOf yX2_latestOf ∈ BG := bg 571 (by decide +kernel) rfl
theorem q_572 : Cond.code yX2_latestOf cX2_latestOf 3 (some .int) ∈ BG := bg 572 (by decide +kernel) rfl
theorem q_575 : Cond.methodLink RX4 188 yX2_has ∈ BG := bg 575 (by decide +kernel) rfl
theorem q_576 : Cond.methodLink RX4 189 yX2_amendsOf ∈ BG := bg 576 (by decide +kernel) rfl
theorem q_577 : Cond.methodLink RX4 192 yX2_monthOf ∈ BG := bg 577 (by decide +kernel) rfl
theorem q_578 : Cond.instanceMethod yX2_monthOf ∈ BG := bg 578 (by decide +kernel) rfl
theorem q_579 : Cond.selects RX2 yX2_monthOf yX2_monthOf ∈ BG := bg 579 (by decide +kernel) rfl
theorem q_580 : Cond.code yX2_monthOf cX2_monthOf 2 (some .int) ∈ BG := bg 580 (by decide +kernel) rfl
theorem q_581 : Cond.methodLink RX4 195 yX2_setterOf ∈ BG := bg 581 (by decide +kernel) rfl
theorem q_582 : Cond.methodLink RX4 198 yX3_isBinding ∈ BG := bg 582 (by decide +kernel) rfl
theorem q_583 : Cond.instanceMethod yX3_isBinding ∈ BG := bg 583 (by decide +kernel) rfl
theorem q_584 : Cond.selects RX3 yX3_isBinding yX3_isBinding ∈ BG := bg 584 (by decide +kernel) rfl
theorem q_585 : Cond.code yX3_isBinding cX3_isBinding 3 (some .boolean) ∈ BG := bg 585 (by decide +kernel) rfl
theorem q_586 : Cond.methodLink RX3 89 yX2_monthOf ∈ BG := bg 586 (by decide +kernel) rfl
theorem q_587 : Cond.methodLink RX3 95 yX1_isOffered ∈ BG := bg 587 (by decide +kernel) rfl
theorem q_588 : Cond.methodLink RX4 201 yX0_following ∈ BG := bg 588 (by decide +kernel) rfl
theorem q_589 : Cond.instanceMethod yX0_following ∈ BG := bg 589 (by decide +kernel) rfl
theorem q_590 : Cond.selects RX0 yX0_following yX0_following ∈ BG := bg 590 (by decide +kernel) rfl
theorem q_591 : Cond.code yX0_following cX0_following 4 (some .int) ∈ BG := bg 591 (by decide +kernel) rfl
theorem q_592 : Cond.methodLink RX4 264 yX4_withComplaint ∈ BG := bg 592 (by decide +kernel) rfl
theorem q_594 : Cond.instanceMethod yX4_withComplaint ∈ BG := bg 594 (by decide +kernel) rfl
theorem q_595 : Cond.code yX4_withComplaint cX4_withComplaint 7 (some .long) ∈ BG := bg 595 (by decide +kernel) rfl
theorem q_596 : Cond.methodLink RX4 303 yX4_complaint ∈ BG := bg 596 (by decide +kernel) rfl
theorem q_597 : Cond.instanceMethod yX4_complaint ∈ BG := bg 597 (by decide +kernel) rfl
theorem q_598 : Cond.selects RX4 yX4_complaint yX4_complaint ∈ BG := bg 598 (by decide +kernel) rfl
theorem q_599 : Cond.code yX4_complaint cX4_complaint 3 (some .int) ∈ BG := bg 599 (by decide +kernel) rfl
theorem q_600 : Cond.methodLink RX4 101 yX0_has ∈ BG := bg 600 (by decide +kernel) rfl
theorem q_601 : Cond.methodLink RX4 161 yX3_ofComplaint ∈ BG := bg 601 (by decide +kernel) rfl
theorem q_602 : Cond.instanceMethod yX3_ofComplaint ∈ BG := bg 602 (by decide +kernel) rfl
theorem q_603 : Cond.selects RX3 yX3_ofComplaint yX3_ofComplaint ∈ BG := bg 603 (by decide +kernel) rfl
theorem q_604 : Cond.code yX3_ofComplaint cX3_ofComplaint 3 (some .int) ∈ BG := bg 604 (by decide +kernel) rfl
theorem q_605 : Cond.methodLink RX3 127 yX0_severityOf ∈ BG := bg 605 (by decide +kernel) rfl
theorem q_606 : Cond.instanceMethod yX0_severityOf ∈ BG := bg 606 (by decide +kernel) rfl
theorem q_607 : Cond.selects RX0 yX0_severityOf yX0_severityOf ∈ BG := bg 607 (by decide +kernel) rfl
theorem q_608 : Cond.code yX0_severityOf cX0_severityOf 2 (some .int) ∈ BG := bg 608 (by decide +kernel) rfl
theorem q_609 : Cond.methodLink RX3 183 yX0_customerOf ∈ BG := bg 609 (by decide +kernel) rfl
theorem q_610 : Cond.instanceMethod yX0_customerOf ∈ BG := bg 610 (by decide +kernel) rfl
theorem q_611 : Cond.selects RX0 yX0_customerOf yX0_customerOf ∈ BG := bg 611 (by decide +kernel) rfl
theorem q_612 : Cond.code yX0_customerOf cX0_customerOf 2 (some .int) ∈ BG := bg 612 (by decide +kernel) rfl
theorem q_613 : Cond.methodLink RX3 102 yX0_groupOf ∈ BG := bg 613 (by decide +kernel) rfl
theorem q_614 : Cond.instanceMethod yX0_groupOf ∈ BG := bg 614 (by decide +kernel) rfl
theorem q_615 : Cond.selects RX0 yX0_groupOf yX0_groupOf ∈ BG := bg 615 (by decide +kernel) rfl
theorem q_616 : Cond.code yX0_groupOf cX0_groupOf 2 (some .int) ∈ BG := bg 616 (by decide +kernel) rfl
theorem q_617 : Cond.methodLink RX3 186 yX0_amendsOf ∈ BG := bg 617 (by decide +kernel) rfl
theorem q_618 : Cond.methodLink RX3 187 yX0_reasonOf ∈ BG := bg 618 (by decide +kernel) rfl
theorem q_619 : Cond.instanceMethod yX0_reasonOf ∈ BG := bg 619 (by decide +kernel) rfl
theorem q_620 : Cond.selects RX0 yX0_reasonOf yX0_reasonOf ∈ BG := bg 620 (by decide +kernel) rfl
theorem q_621 : Cond.code yX0_reasonOf cX0_reasonOf 2 (some .int) ∈ BG := bg 621 (by decide +kernel) rfl
theorem q_622 : Cond.methodLink RX3 162 yX0_monthOf ∈ BG := bg 622 (by decide +kernel) rfl
theorem q_623 : Cond.instanceMethod yX0_monthOf ∈ BG := bg 623 (by decide +kernel) rfl
theorem q_624 : Cond.selects RX0 yX0_monthOf yX0_monthOf ∈ BG := bg 624 (by decide +kernel) rfl
theorem q_625 : Cond.code yX0_monthOf cX0_monthOf 2 (some .int) ∈ BG := bg 625 (by decide +kernel) rfl
theorem q_626 : Cond.methodLink RX4 267 yX4_fair ∈ BG := bg 626 (by decide +kernel) rfl
theorem q_627 : Cond.instanceMethod yX4_fair ∈ BG := bg 627 (by decide +kernel) rfl
theorem q_628 : Cond.selects RX4 yX4_fair yX4_fair ∈ BG := bg 628 (by decide +kernel) rfl
theorem q_629 : Cond.code yX4_fair cX4_fair 6 (some .int) ∈ BG := bg 629 (by decide +kernel) rfl
theorem q_630 : Cond.methodLink RX4 244 yX0_kindOf ∈ BG := bg 630 (by decide +kernel) rfl
theorem q_631 : Cond.methodLink RX4 103 yX3_againstDecision ∈ BG := bg 631 (by decide +kernel) rfl
theorem q_632 : Cond.instanceMethod yX3_againstDecision ∈ BG := bg 632 (by decide +kernel) rfl
theorem q_633 : Cond.selects RX3 yX3_againstDecision yX3_againstDecision ∈ BG := bg 633 (by decide +kernel) rfl
theorem q_634 : Cond.code yX3_againstDecision cX3_againstDecision 6 (some .int) ∈ BG := bg 634 (by decide +kernel) rfl
theorem q_635 : Cond.methodLink RX3 130 yX1_covers ∈ BG := bg 635 (by decide +kernel) rfl
theorem q_636 : Cond.instanceMethod yX1_covers ∈ BG := bg 636 (by decide +kernel) rfl
theorem q_637 : Cond.selects RX1 yX1_covers yX1_covers ∈ BG := bg 637 (by decide +kernel) rfl
theorem q_638 : Cond.code yX1_covers cX1_covers 4 (some .boolean) ∈ BG := bg 638 (by decide +kernel) rfl
theorem q_639 : Cond.methodLink RX1 39 yX1_leastOf ∈ BG := bg 639 (by decide +kernel) rfl
theorem q_640 : Cond.methodLink RX1 43 yX1_mostOf ∈ BG := bg 640 (by decide +kernel) rfl
theorem q_642 : Cond.methodLink RX3 134 yX3_bindingFor ∈ BG := bg 642 (by decide +kernel) rfl
theorem q_643 : Cond.instanceMethod yX3_bindingFor ∈ BG := bg 643 (by decide +kernel) rfl
theorem q_644 : Cond.selects RX3 yX3_bindingFor yX3_bindingFor ∈ BG := bg 644 (by decide +kernel) rfl
theorem q_645 : Cond.code yX3_bindingFor cX3_bindingFor 4 (some .int) ∈ BG := bg 645 (by decide +kernel) rfl
theorem q_646 : Cond.methodLink RX3 105 yX2_latestOf ∈ BG := bg 646 (by decide +kernel) rfl
theorem q_647 : Cond.methodLink RX3 109 yX3_isBinding ∈ BG := bg 647 (by decide +kernel) rfl
theorem q_648 : Cond.methodLink RX4 270 yX4_whyNot ∈ BG := bg 648 (by decide +kernel) rfl
theorem q_649 : Cond.instanceMethod yX4_whyNot ∈ BG := bg 649 (by decide +kernel) rfl
theorem q_650 : Cond.selects RX4 yX4_whyNot yX4_whyNot ∈ BG := bg 650 (by decide +kernel) rfl
theorem q_651 : Cond.code yX4_whyNot cX4_whyNot 4 (some .int) ∈ BG := bg 651 (by decide +kernel) rfl
theorem q_652 : Cond.methodLink RX4 119 yX3_againstJudgement ∈ BG := bg 652 (by decide +kernel) rfl
theorem q_653 : Cond.instanceMethod yX3_againstJudgement ∈ BG := bg 653 (by decide +kernel) rfl
theorem q_654 : Cond.selects RX3 yX3_againstJudgement yX3_againstJudgement ∈ BG := bg 654 (by decide +kernel) rfl
theorem q_655 : Cond.code yX3_againstJudgement cX3_againstJudgement 5 (some .int) ∈ BG := bg 655 (by decide +kernel) rfl
theorem q_656 : Cond.methodLink RX4 273 yX4_ifJudged ∈ BG := bg 656 (by decide +kernel) rfl
theorem q_657 : Cond.instanceMethod yX4_ifJudged ∈ BG := bg 657 (by decide +kernel) rfl
theorem q_658 : Cond.selects RX4 yX4_ifJudged yX4_ifJudged ∈ BG := bg 658 (by decide +kernel) rfl
theorem q_659 : Cond.code yX4_ifJudged cX4_ifJudged 5 (some .int) ∈ BG := bg 659 (by decide +kernel) rfl
theorem q_660 : Cond.methodLink RX4 122 yX3_makeJudgement ∈ BG := bg 660 (by decide +kernel) rfl
theorem q_661 : Cond.instanceMethod yX3_makeJudgement ∈ BG := bg 661 (by decide +kernel) rfl
theorem q_662 : Cond.selects RX3 yX3_makeJudgement yX3_makeJudgement ∈ BG := bg 662 (by decide +kernel) rfl
theorem q_663 : Cond.code yX3_makeJudgement cX3_makeJudgement 8 (some .int) ∈ BG := bg 663 (by decide +kernel) rfl
theorem q_664 : Cond.methodLink RX3 163 yX0_changeStage ∈ BG := bg 664 (by decide +kernel) rfl
theorem q_665 : Cond.instanceMethod yX0_changeStage ∈ BG := bg 665 (by decide +kernel) rfl
theorem q_666 : Cond.selects RX0 yX0_changeStage yX0_changeStage ∈ BG := bg 666 (by decide +kernel) rfl
theorem q_667 : Cond.code yX0_changeStage cX0_changeStage 3 none ∈ BG := bg 667 (by decide +kernel) rfl
theorem q_668 : Cond.methodLink RX3 166 yX2_raise ∈ BG := bg 668 (by decide +kernel) rfl
theorem q_669 : Cond.instanceMethod yX2_raise ∈ BG := bg 669 (by decide +kernel) rfl
theorem q_670 : Cond.selects RX2 yX2_raise yX2_raise ∈ BG := bg 670 (by decide +kernel) rfl
theorem q_671 : Cond.code yX2_raise cX2_raise 3 none ∈ BG := bg 671 (by decide +kernel) rfl
theorem q_672 : Cond.methodLink RX4 247 yX3_owedInAll ∈ BG := bg 672 (by decide +kernel) rfl
theorem q_673 : Cond.instanceMethod yX3_owedInAll ∈ BG := bg 673 (by decide +kernel) rfl
theorem q_674 : Cond.selects RX3 yX3_owedInAll yX3_owedInAll ∈ BG := bg 674 (by decide +kernel) rfl
theorem q_675 : Cond.code yX3_owedInAll cX3_owedInAll 3 (some .int) ∈ BG := bg 675 (by decide +kernel) rfl
theorem q_676 : Cond.methodLink RX3 180 yX3_owedInKind ∈ BG := bg 676 (by decide +kernel) rfl
theorem q_677 : Cond.methodLink RX4 276 yX4_ofCustomer ∈ BG := bg 677 (by decide +kernel) rfl
theorem q_678 : Cond.instanceMethod yX4_ofCustomer ∈ BG := bg 678 (by decide +kernel) rfl
theorem q_679 : Cond.selects RX4 yX4_ofCustomer yX4_ofCustomer ∈ BG := bg 679 (by decide +kernel) rfl
theorem q_680 : Cond.code yX4_ofCustomer cX4_ofCustomer 3 (some .int) ∈ BG := bg 680 (by decide +kernel) rfl
theorem q_681 : Cond.methodLink RX4 85 yX4_isCustomer ∈ BG := bg 681 (by decide +kernel) rfl
theorem q_682 : Cond.static yX4_isCustomer ∈ BG := bg 682 (by decide +kernel) rfl
theorem q_683 : Cond.code yX4_isCustomer cX4_isCustomer 1 (some .boolean) ∈ BG := bg 683 (by decide +kernel) rfl
theorem q_684 : Cond.methodLink RX4 241 yX0_ofOne ∈ BG := bg 684 (by decide +kernel) rfl
theorem q_685 : Cond.instanceMethod yX0_ofOne ∈ BG := bg 685 (by decide +kernel) rfl
theorem q_686 : Cond.selects RX0 yX0_ofOne yX0_ofOne ∈ BG := bg 686 (by decide +kernel) rfl
theorem q_687 : Cond.code yX0_ofOne cX0_ofOne 5 (some .int) ∈ BG := bg 687 (by decide +kernel) rfl
theorem q_688 : Cond.methodLink RX0 64 yX0_customerOf ∈ BG := bg 688 (by decide +kernel) rfl
theorem q_689 : Cond.methodLink RX4 279 yX4_monthsToEqual ∈ BG := bg 689 (by decide +kernel) rfl
theorem q_690 : Cond.methodLink RX4 282 yX4_followShare ∈ BG := bg 690 (by decide +kernel) rfl
theorem q_691 : Cond.methodLink RX4 286 yX4_bitsOf ∈ BG := bg 691 (by decide +kernel) rfl
theorem q_692 : Cond.static yX4_bitsOf ∈ BG := bg 692 (by decide +kernel) rfl
theorem q_693 : Cond.code yX4_bitsOf cX4_bitsOf 8 (some .long) ∈ BG := bg 693 (by decide +kernel) rfl
theorem q_694 : Cond.constantLong RX4 306 (1023) ∈ BG := bg 694 (by decide +kernel) rfl
theorem q_695 : Cond.constantDouble RX4 308 (4611686018427387904) ∈ BG := bg 695 (by decide +kernel) rfl
theorem q_696 : Cond.constantDouble RX4 310 (4841369599423283200) ∈ BG := bg 696 (by decide +kernel) rfl
theorem q_697 : Cond.methodLink RX4 290 yX4_withBuffer ∈ BG := bg 697 (by decide +kernel) rfl
theorem q_699 : Cond.instanceMethod yX4_withBuffer ∈ BG := bg 699 (by decide +kernel) rfl
theorem q_700 : Cond.code yX4_withBuffer cX4_withBuffer 6 (some .long) ∈ BG := bg 700 (by decide +kernel) rfl
theorem q_711 : Cond.methodLink RX4 52 yX4_requireState ∈ BG := bg 711 (by decide +kernel) rfl
theorem q_712 : Cond.static yX4_requireState ∈ BG := bg 712 (by decide +kernel) rfl
theorem q_713 : Cond.code yX4_requireState cX4_requireState 1 none ∈ BG := bg 713 (by decide +kernel) rfl
theorem q_729 : Cond.methodLink RX4 55 yX4_save ∈ BG := bg 729 (by decide +kernel) rfl
theorem q_731 : Cond.instanceMethod yX4_save ∈ BG := bg 731 (by decide +kernel) rfl
theorem q_732 : Cond.code yX4_save cX4_save 2 none ∈ BG := bg 732 (by decide +kernel) rfl
theorem q_733 : Cond.methodLink RX4 153 yX4_savedAt ∈ BG := bg 733 (by decide +kernel) rfl
theorem q_735 : Cond.instanceMethod yX4_savedAt ∈ BG := bg 735 (by decide +kernel) rfl
theorem q_736 : Cond.code yX4_savedAt cX4_savedAt 2 (some (.object "AmendsLedger$State")) ∈ BG := bg 736 (by decide +kernel) rfl
theorem q_737 : Cond.methodLink RX4 58 yX1_add ∈ BG := bg 737 (by decide +kernel) rfl
theorem q_738 : Cond.instanceMethod yX1_add ∈ BG := bg 738 (by decide +kernel) rfl
theorem q_739 : Cond.selects RX1 yX1_add yX1_add ∈ BG := bg 739 (by decide +kernel) rfl
theorem q_740 : Cond.code yX1_add cX1_add 7 (some .int) ∈ BG := bg 740 (by decide +kernel) rfl
theorem q_748 : Cond.methodLink RX4 69 yX1_remove ∈ BG := bg 748 (by decide +kernel) rfl
theorem q_749 : Cond.instanceMethod yX1_remove ∈ BG := bg 749 (by decide +kernel) rfl
theorem q_750 : Cond.selects RX1 yX1_remove yX1_remove ∈ BG := bg 750 (by decide +kernel) rfl
theorem q_751 : Cond.code yX1_remove cX1_remove 5 (some .int) ∈ BG := bg 751 (by decide +kernel) rfl
theorem q_752 : Cond.methodLink RX1 50 yX1_sizeOf ∈ BG := bg 752 (by decide +kernel) rfl
theorem q_753 : Cond.methodLink RX1 54 yX1_isOffered ∈ BG := bg 753 (by decide +kernel) rfl
theorem q_761 : Cond.methodLink RX4 73 yX3_changeBase ∈ BG := bg 761 (by decide +kernel) rfl
theorem q_762 : Cond.instanceMethod yX3_changeBase ∈ BG := bg 762 (by decide +kernel) rfl
theorem q_763 : Cond.selects RX3 yX3_changeBase yX3_changeBase ∈ BG := bg 763 (by decide +kernel) rfl
theorem q_764 : Cond.code yX3_changeBase cX3_changeBase 4 (some .int) ∈ BG := bg 764 (by decide +kernel) rfl
theorem q_765 : Cond.methodLink RX3 83 yX3_baseOf ∈ BG := bg 765 (by decide +kernel) rfl
theorem q_773 : Cond.methodLink RX4 79 yX4_isValueOf ∈ BG := bg 773 (by decide +kernel) rfl
theorem q_774 : Cond.static yX4_isValueOf ∈ BG := bg 774 (by decide +kernel) rfl
theorem q_775 : Cond.code yX4_isValueOf cX4_isValueOf 2 (some .boolean) ∈ BG := bg 775 (by decide +kernel) rfl
theorem q_776 : Cond.fieldLink RX4 321 "AmendsLedger" "LEAST_SETTING" "[I" ∈ BG := bg 776 (by decide +kernel) rfl
theorem q_778 : Cond.fieldLink RX4 324 "AmendsLedger" "GREATEST_SETTING" "[I" ∈ BG := bg 778 (by decide +kernel) rfl
theorem q_780 : Cond.methodLink RX4 82 yX3_changeSetting ∈ BG := bg 780 (by decide +kernel) rfl
theorem q_781 : Cond.instanceMethod yX3_changeSetting ∈ BG := bg 781 (by decide +kernel) rfl
theorem q_782 : Cond.selects RX3 yX3_changeSetting yX3_changeSetting ∈ BG := bg 782 (by decide +kernel) rfl
theorem q_783 : Cond.code yX3_changeSetting cX3_changeSetting 4 (some .int) ∈ BG := bg 783 (by decide +kernel) rfl
theorem q_791 : Cond.methodLink RX4 98 yX0_add ∈ BG := bg 791 (by decide +kernel) rfl
theorem q_792 : Cond.instanceMethod yX0_add ∈ BG := bg 792 (by decide +kernel) rfl
theorem q_793 : Cond.selects RX0 yX0_add yX0_add ∈ BG := bg 793 (by decide +kernel) rfl
theorem q_794 : Cond.code yX0_add cX0_add 5 (some .int) ∈ BG := bg 794 (by decide +kernel) rfl
theorem q_802 : Cond.methodLink RX4 106 yX3_makeDecision ∈ BG := bg 802 (by decide +kernel) rfl
theorem q_803 : Cond.instanceMethod yX3_makeDecision ∈ BG := bg 803 (by decide +kernel) rfl
theorem q_804 : Cond.selects RX3 yX3_makeDecision yX3_makeDecision ∈ BG := bg 804 (by decide +kernel) rfl
theorem q_805 : Cond.code yX3_makeDecision cX3_makeDecision 7 (some .int) ∈ BG := bg 805 (by decide +kernel) rfl
theorem q_806 : Cond.methodLink RX3 147 yX2_add ∈ BG := bg 806 (by decide +kernel) rfl
theorem q_807 : Cond.instanceMethod yX2_add ∈ BG := bg 807 (by decide +kernel) rfl
theorem q_808 : Cond.selects RX2 yX2_add yX2_add ∈ BG := bg 808 (by decide +kernel) rfl
theorem q_809 : Cond.code yX2_add cX2_add 7 (some .int) ∈ BG := bg 809 (by decide +kernel) rfl
theorem q_810 : Cond.methodLink RX3 151 yX0_noteDecision ∈ BG := bg 810 (by decide +kernel) rfl
theorem q_811 : Cond.instanceMethod yX0_noteDecision ∈ BG := bg 811 (by decide +kernel) rfl
theorem q_812 : Cond.selects RX0 yX0_noteDecision yX0_noteDecision ∈ BG := bg 812 (by decide +kernel) rfl
theorem q_813 : Cond.code yX0_noteDecision cX0_noteDecision 5 none ∈ BG := bg 813 (by decide +kernel) rfl
theorem q_821 : Cond.methodLink RX4 109 yX3_canBeAppealed ∈ BG := bg 821 (by decide +kernel) rfl
theorem q_822 : Cond.instanceMethod yX3_canBeAppealed ∈ BG := bg 822 (by decide +kernel) rfl
theorem q_823 : Cond.selects RX3 yX3_canBeAppealed yX3_canBeAppealed ∈ BG := bg 823 (by decide +kernel) rfl
theorem q_824 : Cond.code yX3_canBeAppealed cX3_canBeAppealed 2 (some .boolean) ∈ BG := bg 824 (by decide +kernel) rfl
theorem q_825 : Cond.methodLink RX4 112 yX0_changeStage ∈ BG := bg 825 (by decide +kernel) rfl
theorem q_854 : Cond.methodLink RX4 141 yX4_firstError ∈ BG := bg 854 (by decide +kernel) rfl
theorem q_855 : Cond.methodLink RX4 144 yX4_digitAt ∈ BG := bg 855 (by decide +kernel) rfl
theorem q_857 : Cond.instanceMethod yX4_digitAt ∈ BG := bg 857 (by decide +kernel) rfl
theorem q_858 : Cond.code yX4_digitAt cX4_digitAt 2 (some .int) ∈ BG := bg 858 (by decide +kernel) rfl
theorem q_912 : Cond.methodLink RX5 25 yX5_at ∈ BG := bg 912 (by decide +kernel) rfl
theorem q_913 : Cond.static yX5_at ∈ BG := bg 913 (by decide +kernel) rfl
theorem q_914 : Cond.code yX5_at cX5_at 1 (some .int) ∈ BG := bg 914 (by decide +kernel) rfl
theorem q_915 : Cond.fieldLink RX5 7 "AmendsLedgerModel" "z" "[I" ∈ BG := bg 915 (by decide +kernel) rfl
theorem q_916 : Cond.fieldLink RX5 13 "AmendsLedgerModel" "rows" "[I" ∈ BG := bg 916 (by decide +kernel) rfl
theorem q_917 : Cond.fieldLink RX5 16 "AmendsLedgerModel" "aside" "[I" ∈ BG := bg 917 (by decide +kernel) rfl
theorem q_918 : Cond.fieldLink RX5 33 "AmendsLedgerModel" "savedMany" "I" ∈ BG := bg 918 (by decide +kernel) rfl
theorem q_919 : Cond.fieldLink RX5 19 "AmendsLedgerModel" "buffer" "[I" ∈ BG := bg 919 (by decide +kernel) rfl
theorem q_920 : Cond.fieldLink RX5 128 "AmendsLedgerModel" "bufferMany" "I" ∈ BG := bg 920 (by decide +kernel) rfl
theorem q_921 : Cond.fieldLink RX5 29 "AmendsLedgerModel" "thrown" "I" ∈ BG := bg 921 (by decide +kernel) rfl
theorem q_922 : Cond.fieldLink RX5 112 "AmendsLedgerModel" "toppedUp" "I" ∈ BG := bg 922 (by decide +kernel) rfl
theorem q_923 : Cond.fieldLink RX5 131 "AmendsLedgerModel" "place" "I" ∈ BG := bg 923 (by decide +kernel) rfl
theorem q_924 : Cond.fieldLink RX5 134 "AmendsLedgerModel" "told" "I" ∈ BG := bg 924 (by decide +kernel) rfl
theorem q_925 : Cond.fieldLink RX5 22 "AmendsLedgerModel" "read" "[I" ∈ BG := bg 925 (by decide +kernel) rfl
theorem q_926 : Cond.fieldLink RX5 207 "AmendsLedgerModel" "h" "J" ∈ BG := bg 926 (by decide +kernel) rfl
theorem q_960 : Cond.methodLink RX5 60 yX5_isKind ∈ BG := bg 960 (by decide +kernel) rfl
theorem q_961 : Cond.static yX5_isKind ∈ BG := bg 961 (by decide +kernel) rfl
theorem q_962 : Cond.code yX5_isKind cX5_isKind 1 (some .boolean) ∈ BG := bg 962 (by decide +kernel) rfl
theorem q_963 : Cond.methodLink RX5 36 yX5_in ∈ BG := bg 963 (by decide +kernel) rfl
theorem q_964 : Cond.static yX5_in ∈ BG := bg 964 (by decide +kernel) rfl
theorem q_965 : Cond.code yX5_in cX5_in 3 (some .boolean) ∈ BG := bg 965 (by decide +kernel) rfl
theorem q_966 : Cond.methodLink RX5 64 yX5_fails ∈ BG := bg 966 (by decide +kernel) rfl
theorem q_968 : Cond.instanceMethod yX5_fails ∈ BG := bg 968 (by decide +kernel) rfl
theorem q_969 : Cond.code yX5_fails cX5_fails 2 (some .int) ∈ BG := bg 969 (by decide +kernel) rfl
theorem q_970 : Cond.methodLink RX5 67 yX5_save ∈ BG := bg 970 (by decide +kernel) rfl
theorem q_972 : Cond.instanceMethod yX5_save ∈ BG := bg 972 (by decide +kernel) rfl
theorem q_973 : Cond.code yX5_save cX5_save 2 none ∈ BG := bg 973 (by decide +kernel) rfl
theorem q_974 : Cond.methodLink RX5 44 yX5_menuAt ∈ BG := bg 974 (by decide +kernel) rfl
theorem q_975 : Cond.static yX5_menuAt ∈ BG := bg 975 (by decide +kernel) rfl
theorem q_976 : Cond.code yX5_menuAt cX5_menuAt 2 (some .int) ∈ BG := bg 976 (by decide +kernel) rfl
theorem q_981 : Cond.methodLink RX5 40 yX5_isAmends ∈ BG := bg 981 (by decide +kernel) rfl
theorem q_983 : Cond.instanceMethod yX5_isAmends ∈ BG := bg 983 (by decide +kernel) rfl
theorem q_984 : Cond.code yX5_isAmends cX5_isAmends 3 (some .boolean) ∈ BG := bg 984 (by decide +kernel) rfl
theorem q_985 : Cond.methodLink RX5 51 yX5_isOffered ∈ BG := bg 985 (by decide +kernel) rfl
theorem q_987 : Cond.instanceMethod yX5_isOffered ∈ BG := bg 987 (by decide +kernel) rfl
theorem q_988 : Cond.code yX5_isOffered cX5_isOffered 3 (some .boolean) ∈ BG := bg 988 (by decide +kernel) rfl
theorem q_989 : Cond.methodLink RX5 70 yX5_offered ∈ BG := bg 989 (by decide +kernel) rfl
theorem q_991 : Cond.instanceMethod yX5_offered ∈ BG := bg 991 (by decide +kernel) rfl
theorem q_992 : Cond.code yX5_offered cX5_offered 4 (some .int) ∈ BG := bg 992 (by decide +kernel) rfl
theorem q_1001 : Cond.methodLink RX5 73 yX5_maySet ∈ BG := bg 1001 (by decide +kernel) rfl
theorem q_1002 : Cond.static yX5_maySet ∈ BG := bg 1002 (by decide +kernel) rfl
theorem q_1003 : Cond.code yX5_maySet cX5_maySet 2 (some .boolean) ∈ BG := bg 1003 (by decide +kernel) rfl
theorem q_1008 : Cond.methodLink RX5 76 yX5_complainNow ∈ BG := bg 1008 (by decide +kernel) rfl
theorem q_1010 : Cond.instanceMethod yX5_complainNow ∈ BG := bg 1010 (by decide +kernel) rfl
theorem q_1011 : Cond.code yX5_complainNow cX5_complainNow 5 none ∈ BG := bg 1011 (by decide +kernel) rfl
theorem q_1012 : Cond.methodLink RX5 54 yX5_of ∈ BG := bg 1012 (by decide +kernel) rfl
theorem q_1013 : Cond.static yX5_of ∈ BG := bg 1013 (by decide +kernel) rfl
theorem q_1014 : Cond.code yX5_of cX5_of 1 (some .int) ∈ BG := bg 1014 (by decide +kernel) rfl
theorem q_1019 : Cond.methodLink RX5 99 yX5_isComplaint ∈ BG := bg 1019 (by decide +kernel) rfl
theorem q_1021 : Cond.instanceMethod yX5_isComplaint ∈ BG := bg 1021 (by decide +kernel) rfl
theorem q_1022 : Cond.code yX5_isComplaint cX5_isComplaint 2 (some .boolean) ∈ BG := bg 1022 (by decide +kernel) rfl
theorem q_1023 : Cond.methodLink RX5 95 yX5_whyDecided ∈ BG := bg 1023 (by decide +kernel) rfl
theorem q_1025 : Cond.instanceMethod yX5_whyDecided ∈ BG := bg 1025 (by decide +kernel) rfl
theorem q_1026 : Cond.code yX5_whyDecided cX5_whyDecided 6 (some .int) ∈ BG := bg 1026 (by decide +kernel) rfl
theorem q_1027 : Cond.methodLink RX5 80 yX5_group ∈ BG := bg 1027 (by decide +kernel) rfl
theorem q_1028 : Cond.static yX5_group ∈ BG := bg 1028 (by decide +kernel) rfl
theorem q_1029 : Cond.code yX5_group cX5_group 1 (some .int) ∈ BG := bg 1029 (by decide +kernel) rfl
theorem q_1030 : Cond.methodLink RX5 83 yX5_fits ∈ BG := bg 1030 (by decide +kernel) rfl
theorem q_1032 : Cond.instanceMethod yX5_fits ∈ BG := bg 1032 (by decide +kernel) rfl
theorem q_1033 : Cond.code yX5_fits cX5_fits 4 (some .boolean) ∈ BG := bg 1033 (by decide +kernel) rfl
theorem q_1034 : Cond.methodLink RX5 86 yX5_binds ∈ BG := bg 1034 (by decide +kernel) rfl
theorem q_1036 : Cond.instanceMethod yX5_binds ∈ BG := bg 1036 (by decide +kernel) rfl
theorem q_1037 : Cond.code yX5_binds cX5_binds 4 (some .boolean) ∈ BG := bg 1037 (by decide +kernel) rfl
theorem q_1038 : Cond.methodLink RX5 48 yX5_latest ∈ BG := bg 1038 (by decide +kernel) rfl
theorem q_1040 : Cond.instanceMethod yX5_latest ∈ BG := bg 1040 (by decide +kernel) rfl
theorem q_1041 : Cond.code yX5_latest cX5_latest 3 (some .int) ∈ BG := bg 1041 (by decide +kernel) rfl
theorem q_1042 : Cond.methodLink RX5 57 yX5_cost ∈ BG := bg 1042 (by decide +kernel) rfl
theorem q_1044 : Cond.instanceMethod yX5_cost ∈ BG := bg 1044 (by decide +kernel) rfl
theorem q_1045 : Cond.code yX5_cost cX5_cost 3 (some .int) ∈ BG := bg 1045 (by decide +kernel) rfl
theorem q_1046 : Cond.methodLink RX5 89 yX5_left ∈ BG := bg 1046 (by decide +kernel) rfl
theorem q_1048 : Cond.instanceMethod yX5_left ∈ BG := bg 1048 (by decide +kernel) rfl
theorem q_1049 : Cond.code yX5_left cX5_left 2 (some .int) ∈ BG := bg 1049 (by decide +kernel) rfl
theorem q_1050 : Cond.methodLink RX5 102 yX5_give ∈ BG := bg 1050 (by decide +kernel) rfl
theorem q_1052 : Cond.instanceMethod yX5_give ∈ BG := bg 1052 (by decide +kernel) rfl
theorem q_1053 : Cond.code yX5_give cX5_give 5 none ∈ BG := bg 1053 (by decide +kernel) rfl
theorem q_1054 : Cond.methodLink RX5 106 yX5_setPrecedent ∈ BG := bg 1054 (by decide +kernel) rfl
theorem q_1056 : Cond.instanceMethod yX5_setPrecedent ∈ BG := bg 1056 (by decide +kernel) rfl
theorem q_1057 : Cond.code yX5_setPrecedent cX5_setPrecedent 4 (some .int) ∈ BG := bg 1057 (by decide +kernel) rfl
theorem q_1062 : Cond.methodLink RX5 109 yX5_staged ∈ BG := bg 1062 (by decide +kernel) rfl
theorem q_1064 : Cond.instanceMethod yX5_staged ∈ BG := bg 1064 (by decide +kernel) rfl
theorem q_1065 : Cond.code yX5_staged cX5_staged 4 (some .int) ∈ BG := bg 1065 (by decide +kernel) rfl
theorem q_1070 : Cond.methodLink RX5 92 yX5_whyJudged ∈ BG := bg 1070 (by decide +kernel) rfl
theorem q_1072 : Cond.instanceMethod yX5_whyJudged ∈ BG := bg 1072 (by decide +kernel) rfl
theorem q_1073 : Cond.code yX5_whyJudged cX5_whyJudged 5 (some .int) ∈ BG := bg 1073 (by decide +kernel) rfl
theorem q_1074 : Cond.methodLink RX5 121 yX5_judgeNow ∈ BG := bg 1074 (by decide +kernel) rfl
theorem q_1076 : Cond.instanceMethod yX5_judgeNow ∈ BG := bg 1076 (by decide +kernel) rfl
theorem q_1077 : Cond.code yX5_judgeNow cX5_judgeNow 6 (some .int) ∈ BG := bg 1077 (by decide +kernel) rfl
theorem q_1078 : Cond.methodLink RX5 118 yX5_topUps ∈ BG := bg 1078 (by decide +kernel) rfl
theorem q_1080 : Cond.instanceMethod yX5_topUps ∈ BG := bg 1080 (by decide +kernel) rfl
theorem q_1081 : Cond.code yX5_topUps cX5_topUps 6 (some .int) ∈ BG := bg 1081 (by decide +kernel) rfl
theorem q_1082 : Cond.methodLink RX5 115 yX5_waitsFor ∈ BG := bg 1082 (by decide +kernel) rfl
theorem q_1084 : Cond.instanceMethod yX5_waitsFor ∈ BG := bg 1084 (by decide +kernel) rfl
theorem q_1085 : Cond.code yX5_waitsFor cX5_waitsFor 4 (some .int) ∈ BG := bg 1085 (by decide +kernel) rfl
theorem q_1090 : Cond.methodLink RX5 124 yX5_closeNow ∈ BG := bg 1090 (by decide +kernel) rfl
theorem q_1092 : Cond.instanceMethod yX5_closeNow ∈ BG := bg 1092 (by decide +kernel) rfl
theorem q_1093 : Cond.code yX5_closeNow cX5_closeNow 2 (some .int) ∈ BG := bg 1093 (by decide +kernel) rfl
theorem q_1106 : Cond.methodLink RX5 147 yX5_isText ∈ BG := bg 1106 (by decide +kernel) rfl
theorem q_1108 : Cond.instanceMethod yX5_isText ∈ BG := bg 1108 (by decide +kernel) rfl
theorem q_1109 : Cond.code yX5_isText cX5_isText 2 (some .boolean) ∈ BG := bg 1109 (by decide +kernel) rfl
theorem q_1110 : Cond.methodLink RX5 143 yX5_isOne ∈ BG := bg 1110 (by decide +kernel) rfl
theorem q_1112 : Cond.instanceMethod yX5_isOne ∈ BG := bg 1112 (by decide +kernel) rfl
theorem q_1113 : Cond.code yX5_isOne cX5_isOne 3 (some .boolean) ∈ BG := bg 1113 (by decide +kernel) rfl
theorem q_1114 : Cond.methodLink RX5 137 yX5_takes ∈ BG := bg 1114 (by decide +kernel) rfl
theorem q_1116 : Cond.instanceMethod yX5_takes ∈ BG := bg 1116 (by decide +kernel) rfl
theorem q_1117 : Cond.code yX5_takes cX5_takes 3 (some .boolean) ∈ BG := bg 1117 (by decide +kernel) rfl
theorem q_1118 : Cond.methodLink RX5 140 yX5_digit ∈ BG := bg 1118 (by decide +kernel) rfl
theorem q_1120 : Cond.instanceMethod yX5_digit ∈ BG := bg 1120 (by decide +kernel) rfl
theorem q_1121 : Cond.code yX5_digit cX5_digit 6 (some .boolean) ∈ BG := bg 1121 (by decide +kernel) rfl
theorem q_1134 : Cond.methodLink RX5 150 yX5_complaintOf ∈ BG := bg 1134 (by decide +kernel) rfl
theorem q_1136 : Cond.instanceMethod yX5_complaintOf ∈ BG := bg 1136 (by decide +kernel) rfl
theorem q_1137 : Cond.code yX5_complaintOf cX5_complaintOf 4 (some .int) ∈ BG := bg 1137 (by decide +kernel) rfl
theorem q_1142 : Cond.methodLink RX5 156 yX5_amendsOf ∈ BG := bg 1142 (by decide +kernel) rfl
theorem q_1144 : Cond.instanceMethod yX5_amendsOf ∈ BG := bg 1144 (by decide +kernel) rfl
theorem q_1145 : Cond.code yX5_amendsOf cX5_amendsOf 4 (some .int) ∈ BG := bg 1145 (by decide +kernel) rfl
theorem q_1146 : Cond.methodLink RX5 153 yX5_having ∈ BG := bg 1146 (by decide +kernel) rfl
theorem q_1148 : Cond.instanceMethod yX5_having ∈ BG := bg 1148 (by decide +kernel) rfl
theorem q_1149 : Cond.code yX5_having cX5_having 5 (some .int) ∈ BG := bg 1149 (by decide +kernel) rfl
theorem q_1154 : Cond.methodLink RX5 162 yX5_precedentOf ∈ BG := bg 1154 (by decide +kernel) rfl
theorem q_1156 : Cond.instanceMethod yX5_precedentOf ∈ BG := bg 1156 (by decide +kernel) rfl
theorem q_1157 : Cond.code yX5_precedentOf cX5_precedentOf 5 (some .int) ∈ BG := bg 1157 (by decide +kernel) rfl
theorem q_1158 : Cond.methodLink RX5 159 yX5_following ∈ BG := bg 1158 (by decide +kernel) rfl
theorem q_1160 : Cond.instanceMethod yX5_following ∈ BG := bg 1160 (by decide +kernel) rfl
theorem q_1161 : Cond.code yX5_following cX5_following 4 (some .int) ∈ BG := bg 1161 (by decide +kernel) rfl
theorem q_1166 : Cond.methodLink RX5 168 yX5_kindOf ∈ BG := bg 1166 (by decide +kernel) rfl
theorem q_1168 : Cond.instanceMethod yX5_kindOf ∈ BG := bg 1168 (by decide +kernel) rfl
theorem q_1169 : Cond.code yX5_kindOf cX5_kindOf 3 (some .int) ∈ BG := bg 1169 (by decide +kernel) rfl
theorem q_1170 : Cond.methodLink RX5 165 yX5_ofComplaints ∈ BG := bg 1170 (by decide +kernel) rfl
theorem q_1172 : Cond.instanceMethod yX5_ofComplaints ∈ BG := bg 1172 (by decide +kernel) rfl
theorem q_1173 : Cond.code yX5_ofComplaints cX5_ofComplaints 6 (some .int) ∈ BG := bg 1173 (by decide +kernel) rfl
theorem q_1178 : Cond.methodLink RX5 177 yX5_counted ∈ BG := bg 1178 (by decide +kernel) rfl
theorem q_1180 : Cond.instanceMethod yX5_counted ∈ BG := bg 1180 (by decide +kernel) rfl
theorem q_1181 : Cond.code yX5_counted cX5_counted 2 (some .int) ∈ BG := bg 1181 (by decide +kernel) rfl
theorem q_1182 : Cond.methodLink RX5 171 yX5_departing ∈ BG := bg 1182 (by decide +kernel) rfl
theorem q_1184 : Cond.instanceMethod yX5_departing ∈ BG := bg 1184 (by decide +kernel) rfl
theorem q_1185 : Cond.code yX5_departing cX5_departing 3 (some .int) ∈ BG := bg 1185 (by decide +kernel) rfl
theorem q_1186 : Cond.methodLink RX5 174 yX5_unequal ∈ BG := bg 1186 (by decide +kernel) rfl
theorem q_1188 : Cond.instanceMethod yX5_unequal ∈ BG := bg 1188 (by decide +kernel) rfl
theorem q_1189 : Cond.code yX5_unequal cX5_unequal 5 (some .int) ∈ BG := bg 1189 (by decide +kernel) rfl
theorem q_1198 : Cond.methodLink RX5 180 yX5_customerAt ∈ BG := bg 1198 (by decide +kernel) rfl
theorem q_1200 : Cond.instanceMethod yX5_customerAt ∈ BG := bg 1200 (by decide +kernel) rfl
theorem q_1201 : Cond.code yX5_customerAt cX5_customerAt 7 (some .int) ∈ BG := bg 1201 (by decide +kernel) rfl
theorem q_1206 : Cond.methodLink RX5 183 yX5_why ∈ BG := bg 1206 (by decide +kernel) rfl
theorem q_1208 : Cond.instanceMethod yX5_why ∈ BG := bg 1208 (by decide +kernel) rfl
theorem q_1209 : Cond.code yX5_why cX5_why 4 (some .int) ∈ BG := bg 1209 (by decide +kernel) rfl
theorem q_1214 : Cond.methodLink RX5 186 yX5_fairOf ∈ BG := bg 1214 (by decide +kernel) rfl
theorem q_1216 : Cond.instanceMethod yX5_fairOf ∈ BG := bg 1216 (by decide +kernel) rfl
theorem q_1217 : Cond.code yX5_fairOf cX5_fairOf 6 (some .int) ∈ BG := bg 1217 (by decide +kernel) rfl
theorem q_1222 : Cond.methodLink RX5 195 yX5_judgedOf ∈ BG := bg 1222 (by decide +kernel) rfl
theorem q_1224 : Cond.instanceMethod yX5_judgedOf ∈ BG := bg 1224 (by decide +kernel) rfl
theorem q_1225 : Cond.code yX5_judgedOf cX5_judgedOf 6 (some .int) ∈ BG := bg 1225 (by decide +kernel) rfl
theorem q_1226 : Cond.methodLink RX5 189 yX5_putAside ∈ BG := bg 1226 (by decide +kernel) rfl
theorem q_1228 : Cond.instanceMethod yX5_putAside ∈ BG := bg 1228 (by decide +kernel) rfl
theorem q_1229 : Cond.code yX5_putAside cX5_putAside 2 none ∈ BG := bg 1229 (by decide +kernel) rfl
theorem q_1230 : Cond.methodLink RX5 192 yX5_putBack ∈ BG := bg 1230 (by decide +kernel) rfl
theorem q_1232 : Cond.instanceMethod yX5_putBack ∈ BG := bg 1232 (by decide +kernel) rfl
theorem q_1233 : Cond.code yX5_putBack cX5_putBack 2 none ∈ BG := bg 1233 (by decide +kernel) rfl
theorem q_1238 : Cond.methodLink RX5 198 yX5_monthsOf ∈ BG := bg 1238 (by decide +kernel) rfl
theorem q_1240 : Cond.instanceMethod yX5_monthsOf ∈ BG := bg 1240 (by decide +kernel) rfl
theorem q_1241 : Cond.code yX5_monthsOf cX5_monthsOf 2 (some .int) ∈ BG := bg 1241 (by decide +kernel) rfl
theorem q_1246 : Cond.methodLink RX5 201 yX5_shareOf ∈ BG := bg 1246 (by decide +kernel) rfl
theorem q_1248 : Cond.instanceMethod yX5_shareOf ∈ BG := bg 1248 (by decide +kernel) rfl
theorem q_1249 : Cond.code yX5_shareOf cX5_shareOf 2 (some .double) ∈ BG := bg 1249 (by decide +kernel) rfl
theorem q_1254 : Cond.constantLong RX5 215 (2539) ∈ BG := bg 1254 (by decide +kernel) rfl
theorem q_1255 : Cond.methodLink RX5 211 yX5_mix ∈ BG := bg 1255 (by decide +kernel) rfl
theorem q_1257 : Cond.instanceMethod yX5_mix ∈ BG := bg 1257 (by decide +kernel) rfl
theorem q_1258 : Cond.code yX5_mix cX5_mix 3 none ∈ BG := bg 1258 (by decide +kernel) rfl
theorem q_1259 : Cond.constantLong RX5 205 (31) ∈ BG := bg 1259 (by decide +kernel) rfl
theorem q_1260 : Cond.methodLink RX5 217 yX5_mixKind ∈ BG := bg 1260 (by decide +kernel) rfl
theorem q_1262 : Cond.instanceMethod yX5_mixKind ∈ BG := bg 1262 (by decide +kernel) rfl
theorem q_1263 : Cond.code yX5_mixKind cX5_mixKind 3 none ∈ BG := bg 1263 (by decide +kernel) rfl
theorem q_1264 : Cond.methodLink RX5 221 yX5_mixComplaint ∈ BG := bg 1264 (by decide +kernel) rfl
theorem q_1266 : Cond.instanceMethod yX5_mixComplaint ∈ BG := bg 1266 (by decide +kernel) rfl
theorem q_1267 : Cond.code yX5_mixComplaint cX5_mixComplaint 3 none ∈ BG := bg 1267 (by decide +kernel) rfl
theorem q_1268 : Cond.methodLink RX5 224 yJD_doubleToLongBits ∈ BG := bg 1268 (by decide +kernel) rfl
theorem q_1269 : Cond.static yJD_doubleToLongBits ∈ BG := bg 1269 (by decide +kernel) rfl
theorem q_1270 : Cond.code yJD_doubleToLongBits cJD_doubleToLongBits 2 (some .long) ∈ BG := bg 1270 (by decide +kernel) rfl
theorem q_1271 : Cond.methodLink RJD 122 yJD_isNaN ∈ BG := bg 1271 (by decide +kernel) rfl
theorem q_1272 : Cond.static yJD_isNaN ∈ BG := bg 1272 (by decide +kernel) rfl
theorem q_1273 : Cond.code yJD_isNaN cJD_isNaN 2 (some .boolean) ∈ BG := bg 1273 (by decide +kernel) rfl
theorem q_1274 : Cond.methodLink RJD 134 yJD_doubleToRawLongBits ∈ BG := bg 1274 (by decide +kernel) rfl
theorem q_1275 : Cond.static yJD_doubleToRawLongBits ∈ BG := bg 1275 (by decide +kernel) rfl
theorem q_1276 : Cond.native yJD_doubleToRawLongBits ∈ BG := bg 1276 (by decide +kernel) rfl
theorem q_1277 : Cond.constantLong RJD 137 (9221120237041090560) ∈ BG := bg 1277 (by decide +kernel) rfl
theorem nw_119 : (Cond.fieldLinkNest RX4 92 "AmendsLedger$Complaints" "size" "I" "AmendsLedger") ∈ NW := List.mem_of_getElem? (i := 0) rfl
theorem nw_120 : (Cond.fieldLinkNest RX3 121 "AmendsLedger$Complaints" "size" "I" "AmendsLedger") ∈ NW := List.mem_of_getElem? (i := 1) rfl
theorem nw_161 : (Cond.fieldLinkNest RX4 234 "AmendsLedger$Precedents" "size" "I" "AmendsLedger") ∈ NW := List.mem_of_getElem? (i := 2) rfl
theorem nw_177 : (Cond.fieldLinkNest RX3 45 "AmendsLedger" "FIRST_SETTING" "[I" "AmendsLedger") ∈ NW := List.mem_of_getElem? (i := 3) rfl
theorem nw_190 : (Cond.fieldLinkNest RX4 42 "AmendsLedger$State" "menus" "LAmendsLedger$Menus;" "AmendsLedger") ∈ NW := List.mem_of_getElem? (i := 4) rfl
theorem nw_192 : (Cond.fieldLinkNest RX4 88 "AmendsLedger$State" "complaints" "LAmendsLedger$Complaints;" "AmendsLedger") ∈ NW := List.mem_of_getElem? (i := 5) rfl
theorem nw_194 : (Cond.fieldLinkNest RX4 179 "AmendsLedger$State" "precedents" "LAmendsLedger$Precedents;" "AmendsLedger") ∈ NW := List.mem_of_getElem? (i := 6) rfl
theorem nw_200 : (Cond.fieldLinkNest RX4 125 "AmendsLedger$State" "month" "I" "AmendsLedger") ∈ NW := List.mem_of_getElem? (i := 7) rfl
theorem nw_91 : (Cond.methodLinkNest RX3 11 yX1_init RX4) ∈ NW := List.mem_of_getElem? (i := 8) rfl
theorem nw_114 : (Cond.methodLinkNest RX3 20 yX0_init RX4) ∈ NW := List.mem_of_getElem? (i := 9) rfl
theorem nw_179 : (Cond.methodLinkNest RX3 48 yX4_copyAll RX4) ∈ NW := List.mem_of_getElem? (i := 10) rfl
theorem nw_300 : (Cond.methodLinkNest RX1 31 yX4_isKind RX4) ∈ NW := List.mem_of_getElem? (i := 11) rfl
theorem nw_318 : (Cond.methodLinkNest RX1 27 yX4_copyAll RX4) ∈ NW := List.mem_of_getElem? (i := 12) rfl
theorem nw_323 : (Cond.methodLinkNest RX0 43 yX4_copyAll RX4) ∈ NW := List.mem_of_getElem? (i := 13) rfl
theorem nw_328 : (Cond.methodLinkNest RX2 34 yX4_copyAll RX4) ∈ NW := List.mem_of_getElem? (i := 14) rfl
theorem nw_337 : (Cond.methodLinkNest RX3 76 yX4_isKind RX4) ∈ NW := List.mem_of_getElem? (i := 15) rfl
theorem nw_342 : (Cond.methodLinkNest RX3 72 yX4_isSetting RX4) ∈ NW := List.mem_of_getElem? (i := 16) rfl
theorem nw_573 : (Cond.methodLinkNest RX2 38 yX4_isKind RX4) ∈ NW := List.mem_of_getElem? (i := 17) rfl
theorem nw_574 : (Cond.methodLinkNest RX2 42 yX4_isGroup RX4) ∈ NW := List.mem_of_getElem? (i := 18) rfl
theorem nw_641 : (Cond.methodLinkNest RX1 46 yX4_isWithin RX4) ∈ NW := List.mem_of_getElem? (i := 19) rfl
theorem inB_of {ws : List Cond} (is : List Nat) (h : ws = is.filterMap (fun i => lw_tbl[i]?)) (g : ws.all goodWord = true) : ∀ w ∈ ws, w ∈ BG := by
  intro w hw
  have h1 := List.all_eq_true.mp g w hw
  rw [h] at hw
  obtain ⟨i, -, hi⟩ := List.mem_filterMap.mp hw
  exact bg i hi h1
theorem inB_X0 : ∀ w ∈ u_ws RX0 TX0 10, w ∈ BG := inB_of [130, 132, 134, 136, 138, 140, 142, 144, 146, 148] (by decide +kernel) (by decide +kernel)
theorem inB_X1 : ∀ w ∈ u_ws RX1 TX1 5, w ∈ BG := inB_of [100, 102, 104, 106, 108] (by decide +kernel) (by decide +kernel)
theorem inB_X2 : ∀ w ∈ u_ws RX2 TX2 5, w ∈ BG := inB_of [166, 168, 170, 172, 174] (by decide +kernel) (by decide +kernel)
theorem inB_X3 : ∀ w ∈ u_ws RX3 TX3 8, w ∈ BG := inB_of [201, 203, 205, 207, 209, 211, 213, 215] (by decide +kernel) (by decide +kernel)
theorem inB_X4 : ∀ w ∈ u_ws RX4 TX4 7, w ∈ BG := inB_of [226, 228, 230, 232, 234, 236, 238] (by decide +kernel) (by decide +kernel)
theorem inB_X5 : ∀ w ∈ u_ws RX5 TX5 12, w ∈ BG := inB_of [927, 929, 931, 933, 935, 937, 939, 941, 943, 945, 947, 949] (by decide +kernel) (by decide +kernel)
section LK
variable {p : Program} {l : Launch} {e : Env} {R : Room} {s : State} {mi : MethodId} {args : Array Value} {below : List Frame} {meth : Method} {cd : Code} {H : Heap} {locs : List Loc} {cells slots : Nat} {Q : State → Prop}
variable {cc : ByteArray} {pc : Nat} {ls : Array Slot} {rest : List Value} {E : TE} {x m : XS} {g o : Int64}
theorem gf_X0_9 (hx : p.tables.exec = Jvm.exec) (hb : cd.code = cc) (hB : ∀ w ∈ BG, w.before args s = true) (hK : Ks E s) (hown : s.vm.findClass RX0 = some mi.cls) (hW : Wd E x m g o H) {b : Nat} (hbk : IsB b) (hdg : decode cc pc = .ok (.getfield 9, 3)) (kk : W p l e R s mi args below meth cd H locs cells slots Q (F0 mi (pc + 3) ls (rf E (b + 8) :: rest))) : W p l e R s mi args below meth cd H locs cells slots Q (F0 mi pc ls (rf E (b + 7) :: rest)) :=
  r_get hx hb hB hK (own := RX0) (C := RX0) (T := TX0) (N := 10) (ci := 0) inB_X0 hown hW (hbk.l8 (j := 7) (by decide)) (cB_7 hbk) rfl 1 (by decide) rfl q_121 rfl hdg kk
theorem gf_X0_15 (hx : p.tables.exec = Jvm.exec) (hb : cd.code = cc) (hB : ∀ w ∈ BG, w.before args s = true) (hK : Ks E s) (hown : s.vm.findClass RX0 = some mi.cls) (hW : Wd E x m g o H) {b : Nat} (hbk : IsB b) (hdg : decode cc pc = .ok (.getfield 15, 3)) (kk : W p l e R s mi args below meth cd H locs cells slots Q (F0 mi (pc + 3) ls (rf E (b + 9) :: rest))) : W p l e R s mi args below meth cd H locs cells slots Q (F0 mi pc ls (rf E (b + 7) :: rest)) :=
  r_get hx hb hB hK (own := RX0) (C := RX0) (T := TX0) (N := 10) (ci := 0) inB_X0 hown hW (hbk.l8 (j := 7) (by decide)) (cB_7 hbk) rfl 2 (by decide) rfl q_122 rfl hdg kk
theorem gf_X0_18 (hx : p.tables.exec = Jvm.exec) (hb : cd.code = cc) (hB : ∀ w ∈ BG, w.before args s = true) (hK : Ks E s) (hown : s.vm.findClass RX0 = some mi.cls) (hW : Wd E x m g o H) {b : Nat} (hbk : IsB b) (hdg : decode cc pc = .ok (.getfield 18, 3)) (kk : W p l e R s mi args below meth cd H locs cells slots Q (F0 mi (pc + 3) ls (rf E (b + 10) :: rest))) : W p l e R s mi args below meth cd H locs cells slots Q (F0 mi pc ls (rf E (b + 7) :: rest)) :=
  r_get hx hb hB hK (own := RX0) (C := RX0) (T := TX0) (N := 10) (ci := 0) inB_X0 hown hW (hbk.l8 (j := 7) (by decide)) (cB_7 hbk) rfl 3 (by decide) rfl q_123 rfl hdg kk
theorem gf_X0_21 (hx : p.tables.exec = Jvm.exec) (hb : cd.code = cc) (hB : ∀ w ∈ BG, w.before args s = true) (hK : Ks E s) (hown : s.vm.findClass RX0 = some mi.cls) (hW : Wd E x m g o H) {b : Nat} (hbk : IsB b) (hdg : decode cc pc = .ok (.getfield 21, 3)) (kk : W p l e R s mi args below meth cd H locs cells slots Q (F0 mi (pc + 3) ls (rf E (b + 11) :: rest))) : W p l e R s mi args below meth cd H locs cells slots Q (F0 mi pc ls (rf E (b + 7) :: rest)) :=
  r_get hx hb hB hK (own := RX0) (C := RX0) (T := TX0) (N := 10) (ci := 0) inB_X0 hown hW (hbk.l8 (j := 7) (by decide)) (cB_7 hbk) rfl 4 (by decide) rfl q_124 rfl hdg kk
theorem gf_X0_24 (hx : p.tables.exec = Jvm.exec) (hb : cd.code = cc) (hB : ∀ w ∈ BG, w.before args s = true) (hK : Ks E s) (hown : s.vm.findClass RX0 = some mi.cls) (hW : Wd E x m g o H) {b : Nat} (hbk : IsB b) (hdg : decode cc pc = .ok (.getfield 24, 3)) (kk : W p l e R s mi args below meth cd H locs cells slots Q (F0 mi (pc + 3) ls (rf E (b + 12) :: rest))) : W p l e R s mi args below meth cd H locs cells slots Q (F0 mi pc ls (rf E (b + 7) :: rest)) :=
  r_get hx hb hB hK (own := RX0) (C := RX0) (T := TX0) (N := 10) (ci := 0) inB_X0 hown hW (hbk.l8 (j := 7) (by decide)) (cB_7 hbk) rfl 5 (by decide) rfl q_125 rfl hdg kk
theorem gf_X0_27 (hx : p.tables.exec = Jvm.exec) (hb : cd.code = cc) (hB : ∀ w ∈ BG, w.before args s = true) (hK : Ks E s) (hown : s.vm.findClass RX0 = some mi.cls) (hW : Wd E x m g o H) {b : Nat} (hbk : IsB b) (hdg : decode cc pc = .ok (.getfield 27, 3)) (kk : W p l e R s mi args below meth cd H locs cells slots Q (F0 mi (pc + 3) ls (rf E (b + 13) :: rest))) : W p l e R s mi args below meth cd H locs cells slots Q (F0 mi pc ls (rf E (b + 7) :: rest)) :=
  r_get hx hb hB hK (own := RX0) (C := RX0) (T := TX0) (N := 10) (ci := 0) inB_X0 hown hW (hbk.l8 (j := 7) (by decide)) (cB_7 hbk) rfl 6 (by decide) rfl q_126 rfl hdg kk
theorem gf_X0_30 (hx : p.tables.exec = Jvm.exec) (hb : cd.code = cc) (hB : ∀ w ∈ BG, w.before args s = true) (hK : Ks E s) (hown : s.vm.findClass RX0 = some mi.cls) (hW : Wd E x m g o H) {b : Nat} (hbk : IsB b) (hdg : decode cc pc = .ok (.getfield 30, 3)) (kk : W p l e R s mi args below meth cd H locs cells slots Q (F0 mi (pc + 3) ls (rf E (b + 14) :: rest))) : W p l e R s mi args below meth cd H locs cells slots Q (F0 mi pc ls (rf E (b + 7) :: rest)) :=
  r_get hx hb hB hK (own := RX0) (C := RX0) (T := TX0) (N := 10) (ci := 0) inB_X0 hown hW (hbk.l8 (j := 7) (by decide)) (cB_7 hbk) rfl 7 (by decide) rfl q_127 rfl hdg kk
theorem gf_X0_33 (hx : p.tables.exec = Jvm.exec) (hb : cd.code = cc) (hB : ∀ w ∈ BG, w.before args s = true) (hK : Ks E s) (hown : s.vm.findClass RX0 = some mi.cls) (hW : Wd E x m g o H) {b : Nat} (hbk : IsB b) (hdg : decode cc pc = .ok (.getfield 33, 3)) (kk : W p l e R s mi args below meth cd H locs cells slots Q (F0 mi (pc + 3) ls (rf E (b + 15) :: rest))) : W p l e R s mi args below meth cd H locs cells slots Q (F0 mi pc ls (rf E (b + 7) :: rest)) :=
  r_get hx hb hB hK (own := RX0) (C := RX0) (T := TX0) (N := 10) (ci := 0) inB_X0 hown hW (hbk.l8 (j := 7) (by decide)) (cB_7 hbk) rfl 8 (by decide) rfl q_128 rfl hdg kk
theorem gf_X0_36 (hx : p.tables.exec = Jvm.exec) (hb : cd.code = cc) (hB : ∀ w ∈ BG, w.before args s = true) (hK : Ks E s) (hown : s.vm.findClass RX0 = some mi.cls) (hW : Wd E x m g o H) {b : Nat} (hbk : IsB b) (hdg : decode cc pc = .ok (.getfield 36, 3)) (kk : W p l e R s mi args below meth cd H locs cells slots Q (F0 mi (pc + 3) ls (rf E (b + 16) :: rest))) : W p l e R s mi args below meth cd H locs cells slots Q (F0 mi pc ls (rf E (b + 7) :: rest)) :=
  r_get hx hb hB hK (own := RX0) (C := RX0) (T := TX0) (N := 10) (ci := 0) inB_X0 hown hW (hbk.l8 (j := 7) (by decide)) (cB_7 hbk) rfl 9 (by decide) rfl q_129 rfl hdg kk
theorem gf_X0_39 (hx : p.tables.exec = Jvm.exec) (hb : cd.code = cc) (hB : ∀ w ∈ BG, w.before args s = true) (hK : Ks E s) (hown : s.vm.findClass RX0 = some mi.cls) (hW : Wd E x m g o H) {b : Nat} (hbk : IsB b) (hdg : decode cc pc = .ok (.getfield 39, 3)) (kk : W p l e R s mi args below meth cd H locs cells slots Q (F0 mi (pc + 3) ls (.int (x (b + 7) 0) :: rest))) : W p l e R s mi args below meth cd H locs cells slots Q (F0 mi pc ls (rf E (b + 7) :: rest)) :=
  r_get hx hb hB hK (own := RX0) (C := RX0) (T := TX0) (N := 10) (ci := 0) inB_X0 hown hW (hbk.l8 (j := 7) (by decide)) (cB_7 hbk) rfl 0 (by decide) rfl q_118 rfl hdg kk
theorem gf_X1_9 (hx : p.tables.exec = Jvm.exec) (hb : cd.code = cc) (hB : ∀ w ∈ BG, w.before args s = true) (hK : Ks E s) (hown : s.vm.findClass RX1 = some mi.cls) (hW : Wd E x m g o H) {b : Nat} (hbk : IsB b) (hdg : decode cc pc = .ok (.getfield 9, 3)) (kk : W p l e R s mi args below meth cd H locs cells slots Q (F0 mi (pc + 3) ls (rf E (b + 2) :: rest))) : W p l e R s mi args below meth cd H locs cells slots Q (F0 mi pc ls (rf E (b + 1) :: rest)) :=
  r_get hx hb hB hK (own := RX1) (C := RX1) (T := TX1) (N := 5) (ci := 1) inB_X1 hown hW (hbk.l8 (j := 1) (by decide)) (cB_1 hbk) rfl 0 (by decide) rfl q_95 rfl hdg kk
theorem gf_X1_15 (hx : p.tables.exec = Jvm.exec) (hb : cd.code = cc) (hB : ∀ w ∈ BG, w.before args s = true) (hK : Ks E s) (hown : s.vm.findClass RX1 = some mi.cls) (hW : Wd E x m g o H) {b : Nat} (hbk : IsB b) (hdg : decode cc pc = .ok (.getfield 15, 3)) (kk : W p l e R s mi args below meth cd H locs cells slots Q (F0 mi (pc + 3) ls (rf E (b + 3) :: rest))) : W p l e R s mi args below meth cd H locs cells slots Q (F0 mi pc ls (rf E (b + 1) :: rest)) :=
  r_get hx hb hB hK (own := RX1) (C := RX1) (T := TX1) (N := 5) (ci := 1) inB_X1 hown hW (hbk.l8 (j := 1) (by decide)) (cB_1 hbk) rfl 1 (by decide) rfl q_96 rfl hdg kk
theorem gf_X1_18 (hx : p.tables.exec = Jvm.exec) (hb : cd.code = cc) (hB : ∀ w ∈ BG, w.before args s = true) (hK : Ks E s) (hown : s.vm.findClass RX1 = some mi.cls) (hW : Wd E x m g o H) {b : Nat} (hbk : IsB b) (hdg : decode cc pc = .ok (.getfield 18, 3)) (kk : W p l e R s mi args below meth cd H locs cells slots Q (F0 mi (pc + 3) ls (rf E (b + 4) :: rest))) : W p l e R s mi args below meth cd H locs cells slots Q (F0 mi pc ls (rf E (b + 1) :: rest)) :=
  r_get hx hb hB hK (own := RX1) (C := RX1) (T := TX1) (N := 5) (ci := 1) inB_X1 hown hW (hbk.l8 (j := 1) (by decide)) (cB_1 hbk) rfl 2 (by decide) rfl q_97 rfl hdg kk
theorem gf_X1_21 (hx : p.tables.exec = Jvm.exec) (hb : cd.code = cc) (hB : ∀ w ∈ BG, w.before args s = true) (hK : Ks E s) (hown : s.vm.findClass RX1 = some mi.cls) (hW : Wd E x m g o H) {b : Nat} (hbk : IsB b) (hdg : decode cc pc = .ok (.getfield 21, 3)) (kk : W p l e R s mi args below meth cd H locs cells slots Q (F0 mi (pc + 3) ls (rf E (b + 5) :: rest))) : W p l e R s mi args below meth cd H locs cells slots Q (F0 mi pc ls (rf E (b + 1) :: rest)) :=
  r_get hx hb hB hK (own := RX1) (C := RX1) (T := TX1) (N := 5) (ci := 1) inB_X1 hown hW (hbk.l8 (j := 1) (by decide)) (cB_1 hbk) rfl 3 (by decide) rfl q_98 rfl hdg kk
theorem gf_X1_24 (hx : p.tables.exec = Jvm.exec) (hb : cd.code = cc) (hB : ∀ w ∈ BG, w.before args s = true) (hK : Ks E s) (hown : s.vm.findClass RX1 = some mi.cls) (hW : Wd E x m g o H) {b : Nat} (hbk : IsB b) (hdg : decode cc pc = .ok (.getfield 24, 3)) (kk : W p l e R s mi args below meth cd H locs cells slots Q (F0 mi (pc + 3) ls (rf E (b + 6) :: rest))) : W p l e R s mi args below meth cd H locs cells slots Q (F0 mi pc ls (rf E (b + 1) :: rest)) :=
  r_get hx hb hB hK (own := RX1) (C := RX1) (T := TX1) (N := 5) (ci := 1) inB_X1 hown hW (hbk.l8 (j := 1) (by decide)) (cB_1 hbk) rfl 4 (by decide) rfl q_99 rfl hdg kk
theorem gf_X2_9 (hx : p.tables.exec = Jvm.exec) (hb : cd.code = cc) (hB : ∀ w ∈ BG, w.before args s = true) (hK : Ks E s) (hown : s.vm.findClass RX2 = some mi.cls) (hW : Wd E x m g o H) {b : Nat} (hbk : IsB b) (hdg : decode cc pc = .ok (.getfield 9, 3)) (kk : W p l e R s mi args below meth cd H locs cells slots Q (F0 mi (pc + 3) ls (rf E (b + 18) :: rest))) : W p l e R s mi args below meth cd H locs cells slots Q (F0 mi pc ls (rf E (b + 17) :: rest)) :=
  r_get hx hb hB hK (own := RX2) (C := RX2) (T := TX2) (N := 5) (ci := 2) inB_X2 hown hW (hbk.l8 (j := 17) (by decide)) (cB_17 hbk) rfl 1 (by decide) rfl q_162 rfl hdg kk
theorem gf_X2_15 (hx : p.tables.exec = Jvm.exec) (hb : cd.code = cc) (hB : ∀ w ∈ BG, w.before args s = true) (hK : Ks E s) (hown : s.vm.findClass RX2 = some mi.cls) (hW : Wd E x m g o H) {b : Nat} (hbk : IsB b) (hdg : decode cc pc = .ok (.getfield 15, 3)) (kk : W p l e R s mi args below meth cd H locs cells slots Q (F0 mi (pc + 3) ls (rf E (b + 19) :: rest))) : W p l e R s mi args below meth cd H locs cells slots Q (F0 mi pc ls (rf E (b + 17) :: rest)) :=
  r_get hx hb hB hK (own := RX2) (C := RX2) (T := TX2) (N := 5) (ci := 2) inB_X2 hown hW (hbk.l8 (j := 17) (by decide)) (cB_17 hbk) rfl 2 (by decide) rfl q_163 rfl hdg kk
theorem gf_X2_18 (hx : p.tables.exec = Jvm.exec) (hb : cd.code = cc) (hB : ∀ w ∈ BG, w.before args s = true) (hK : Ks E s) (hown : s.vm.findClass RX2 = some mi.cls) (hW : Wd E x m g o H) {b : Nat} (hbk : IsB b) (hdg : decode cc pc = .ok (.getfield 18, 3)) (kk : W p l e R s mi args below meth cd H locs cells slots Q (F0 mi (pc + 3) ls (rf E (b + 20) :: rest))) : W p l e R s mi args below meth cd H locs cells slots Q (F0 mi pc ls (rf E (b + 17) :: rest)) :=
  r_get hx hb hB hK (own := RX2) (C := RX2) (T := TX2) (N := 5) (ci := 2) inB_X2 hown hW (hbk.l8 (j := 17) (by decide)) (cB_17 hbk) rfl 3 (by decide) rfl q_164 rfl hdg kk
theorem gf_X2_21 (hx : p.tables.exec = Jvm.exec) (hb : cd.code = cc) (hB : ∀ w ∈ BG, w.before args s = true) (hK : Ks E s) (hown : s.vm.findClass RX2 = some mi.cls) (hW : Wd E x m g o H) {b : Nat} (hbk : IsB b) (hdg : decode cc pc = .ok (.getfield 21, 3)) (kk : W p l e R s mi args below meth cd H locs cells slots Q (F0 mi (pc + 3) ls (rf E (b + 21) :: rest))) : W p l e R s mi args below meth cd H locs cells slots Q (F0 mi pc ls (rf E (b + 17) :: rest)) :=
  r_get hx hb hB hK (own := RX2) (C := RX2) (T := TX2) (N := 5) (ci := 2) inB_X2 hown hW (hbk.l8 (j := 17) (by decide)) (cB_17 hbk) rfl 4 (by decide) rfl q_165 rfl hdg kk
theorem gf_X2_30 (hx : p.tables.exec = Jvm.exec) (hb : cd.code = cc) (hB : ∀ w ∈ BG, w.before args s = true) (hK : Ks E s) (hown : s.vm.findClass RX2 = some mi.cls) (hW : Wd E x m g o H) {b : Nat} (hbk : IsB b) (hdg : decode cc pc = .ok (.getfield 30, 3)) (kk : W p l e R s mi args below meth cd H locs cells slots Q (F0 mi (pc + 3) ls (.int (x (b + 17) 0) :: rest))) : W p l e R s mi args below meth cd H locs cells slots Q (F0 mi pc ls (rf E (b + 17) :: rest)) :=
  r_get hx hb hB hK (own := RX2) (C := RX2) (T := TX2) (N := 5) (ci := 2) inB_X2 hown hW (hbk.l8 (j := 17) (by decide)) (cB_17 hbk) rfl 0 (by decide) rfl q_160 rfl hdg kk
theorem gf_X3_12 (hx : p.tables.exec = Jvm.exec) (hb : cd.code = cc) (hB : ∀ w ∈ BG, w.before args s = true) (hK : Ks E s) (hown : s.vm.findClass RX3 = some mi.cls) (hW : Wd E x m g o H) {b : Nat} (hbk : IsB b) (hdg : decode cc pc = .ok (.getfield 12, 3)) (kk : W p l e R s mi args below meth cd H locs cells slots Q (F0 mi (pc + 3) ls (rf E (b + 1) :: rest))) : W p l e R s mi args below meth cd H locs cells slots Q (F0 mi pc ls (rf E b :: rest)) :=
  r_get hx hb hB hK (own := RX3) (C := RX3) (T := TX3) (N := 8) (ci := 3) inB_X3 hown hW hbk.l0 (cB_0 hbk) rfl 0 (by decide) rfl q_189 rfl hdg kk
theorem gf_X3_21 (hx : p.tables.exec = Jvm.exec) (hb : cd.code = cc) (hB : ∀ w ∈ BG, w.before args s = true) (hK : Ks E s) (hown : s.vm.findClass RX3 = some mi.cls) (hW : Wd E x m g o H) {b : Nat} (hbk : IsB b) (hdg : decode cc pc = .ok (.getfield 21, 3)) (kk : W p l e R s mi args below meth cd H locs cells slots Q (F0 mi (pc + 3) ls (rf E (b + 7) :: rest))) : W p l e R s mi args below meth cd H locs cells slots Q (F0 mi pc ls (rf E b :: rest)) :=
  r_get hx hb hB hK (own := RX3) (C := RX3) (T := TX3) (N := 8) (ci := 3) inB_X3 hown hW hbk.l0 (cB_0 hbk) rfl 1 (by decide) rfl q_191 rfl hdg kk
theorem gf_X3_28 (hx : p.tables.exec = Jvm.exec) (hb : cd.code = cc) (hB : ∀ w ∈ BG, w.before args s = true) (hK : Ks E s) (hown : s.vm.findClass RX3 = some mi.cls) (hW : Wd E x m g o H) {b : Nat} (hbk : IsB b) (hdg : decode cc pc = .ok (.getfield 28, 3)) (kk : W p l e R s mi args below meth cd H locs cells slots Q (F0 mi (pc + 3) ls (rf E (b + 17) :: rest))) : W p l e R s mi args below meth cd H locs cells slots Q (F0 mi pc ls (rf E b :: rest)) :=
  r_get hx hb hB hK (own := RX3) (C := RX3) (T := TX3) (N := 8) (ci := 3) inB_X3 hown hW hbk.l0 (cB_0 hbk) rfl 2 (by decide) rfl q_193 rfl hdg kk
theorem gf_X3_32 (hx : p.tables.exec = Jvm.exec) (hb : cd.code = cc) (hB : ∀ w ∈ BG, w.before args s = true) (hK : Ks E s) (hown : s.vm.findClass RX3 = some mi.cls) (hW : Wd E x m g o H) {b : Nat} (hbk : IsB b) (hdg : decode cc pc = .ok (.getfield 32, 3)) (kk : W p l e R s mi args below meth cd H locs cells slots Q (F0 mi (pc + 3) ls (rf E (b + 22) :: rest))) : W p l e R s mi args below meth cd H locs cells slots Q (F0 mi pc ls (rf E b :: rest)) :=
  r_get hx hb hB hK (own := RX3) (C := RX3) (T := TX3) (N := 8) (ci := 3) inB_X3 hown hW hbk.l0 (cB_0 hbk) rfl 3 (by decide) rfl q_195 rfl hdg kk
theorem gf_X3_36 (hx : p.tables.exec = Jvm.exec) (hb : cd.code = cc) (hB : ∀ w ∈ BG, w.before args s = true) (hK : Ks E s) (hown : s.vm.findClass RX3 = some mi.cls) (hW : Wd E x m g o H) {b : Nat} (hbk : IsB b) (hdg : decode cc pc = .ok (.getfield 36, 3)) (kk : W p l e R s mi args below meth cd H locs cells slots Q (F0 mi (pc + 3) ls (rf E (b + 23) :: rest))) : W p l e R s mi args below meth cd H locs cells slots Q (F0 mi pc ls (rf E b :: rest)) :=
  r_get hx hb hB hK (own := RX3) (C := RX3) (T := TX3) (N := 8) (ci := 3) inB_X3 hown hW hbk.l0 (cB_0 hbk) rfl 4 (by decide) rfl q_196 rfl hdg kk
theorem gf_X3_39 (hx : p.tables.exec = Jvm.exec) (hb : cd.code = cc) (hB : ∀ w ∈ BG, w.before args s = true) (hK : Ks E s) (hown : s.vm.findClass RX3 = some mi.cls) (hW : Wd E x m g o H) {b : Nat} (hbk : IsB b) (hdg : decode cc pc = .ok (.getfield 39, 3)) (kk : W p l e R s mi args below meth cd H locs cells slots Q (F0 mi (pc + 3) ls (rf E (b + 24) :: rest))) : W p l e R s mi args below meth cd H locs cells slots Q (F0 mi pc ls (rf E b :: rest)) :=
  r_get hx hb hB hK (own := RX3) (C := RX3) (T := TX3) (N := 8) (ci := 3) inB_X3 hown hW hbk.l0 (cB_0 hbk) rfl 5 (by decide) rfl q_197 rfl hdg kk
theorem gf_X3_42 (hx : p.tables.exec = Jvm.exec) (hb : cd.code = cc) (hB : ∀ w ∈ BG, w.before args s = true) (hK : Ks E s) (hown : s.vm.findClass RX3 = some mi.cls) (hW : Wd E x m g o H) {b : Nat} (hbk : IsB b) (hdg : decode cc pc = .ok (.getfield 42, 3)) (kk : W p l e R s mi args below meth cd H locs cells slots Q (F0 mi (pc + 3) ls (rf E (b + 25) :: rest))) : W p l e R s mi args below meth cd H locs cells slots Q (F0 mi pc ls (rf E b :: rest)) :=
  r_get hx hb hB hK (own := RX3) (C := RX3) (T := TX3) (N := 8) (ci := 3) inB_X3 hown hW hbk.l0 (cB_0 hbk) rfl 6 (by decide) rfl q_198 rfl hdg kk
theorem gf_X3_68 (hx : p.tables.exec = Jvm.exec) (hb : cd.code = cc) (hB : ∀ w ∈ BG, w.before args s = true) (hK : Ks E s) (hown : s.vm.findClass RX3 = some mi.cls) (hW : Wd E x m g o H) {b : Nat} (hbk : IsB b) (hdg : decode cc pc = .ok (.getfield 68, 3)) (kk : W p l e R s mi args below meth cd H locs cells slots Q (F0 mi (pc + 3) ls (.int (x b 7) :: rest))) : W p l e R s mi args below meth cd H locs cells slots Q (F0 mi pc ls (rf E b :: rest)) :=
  r_get hx hb hB hK (own := RX3) (C := RX3) (T := TX3) (N := 8) (ci := 3) inB_X3 hown hW hbk.l0 (cB_0 hbk) rfl 7 (by decide) rfl q_199 rfl hdg kk
theorem gf_X3_121 (hx : p.tables.exec = Jvm.exec) (hb : cd.code = cc) (hB : ∀ w ∈ BG, w.before args s = true) (hK : Ks E s) (hown : s.vm.findClass RX3 = some mi.cls) (hW : Wd E x m g o H) {b : Nat} (hbk : IsB b) (hdg : decode cc pc = .ok (.getfield 121, 3)) (kk : W p l e R s mi args below meth cd H locs cells slots Q (F0 mi (pc + 3) ls (.int (x (b + 7) 0) :: rest))) : W p l e R s mi args below meth cd H locs cells slots Q (F0 mi pc ls (rf E (b + 7) :: rest)) :=
  r_getN (host := "AmendsLedger") hx hb hB hK (own := RX3) (C := RX0) (T := TX0) (N := 10) (ci := 0) inB_X0 hown hW (hbk.l8 (j := 7) (by decide)) (cB_7 hbk) rfl 0 (by decide) rfl nw_120 rfl hdg kk
theorem gf_X4_10 (hx : p.tables.exec = Jvm.exec) (hb : cd.code = cc) (hB : ∀ w ∈ BG, w.before args s = true) (hK : Ks E s) (hown : s.vm.findClass RX4 = some mi.cls) (hW : Wd E x m g o H) (hdg : decode cc pc = .ok (.getfield 10, 3)) (kk : W p l e R s mi args below meth cd H locs cells slots Q (F0 mi (pc + 3) ls (rf E 1 :: rest))) : W p l e R s mi args below meth cd H locs cells slots Q (F0 mi pc ls (rf E 0 :: rest)) :=
  r_get hx hb hB hK (own := RX4) (C := RX4) (T := TX4) (N := 7) (ci := 4) inB_X4 hown hW (by decide) (cX_0) rfl 0 (by decide) rfl q_219 rfl hdg kk
theorem gf_X4_16 (hx : p.tables.exec = Jvm.exec) (hb : cd.code = cc) (hB : ∀ w ∈ BG, w.before args s = true) (hK : Ks E s) (hown : s.vm.findClass RX4 = some mi.cls) (hW : Wd E x m g o H) (hdg : decode cc pc = .ok (.getfield 16, 3)) (kk : W p l e R s mi args below meth cd H locs cells slots Q (F0 mi (pc + 3) ls (rf E 27 :: rest))) : W p l e R s mi args below meth cd H locs cells slots Q (F0 mi pc ls (rf E 0 :: rest)) :=
  r_get hx hb hB hK (own := RX4) (C := RX4) (T := TX4) (N := 7) (ci := 4) inB_X4 hown hW (by decide) (cX_0) rfl 1 (by decide) rfl q_220 rfl hdg kk
theorem gf_X4_19 (hx : p.tables.exec = Jvm.exec) (hb : cd.code = cc) (hB : ∀ w ∈ BG, w.before args s = true) (hK : Ks E s) (hown : s.vm.findClass RX4 = some mi.cls) (hW : Wd E x m g o H) (hdg : decode cc pc = .ok (.getfield 19, 3)) (kk : W p l e R s mi args below meth cd H locs cells slots Q (F0 mi (pc + 3) ls (rf E 53 :: rest))) : W p l e R s mi args below meth cd H locs cells slots Q (F0 mi pc ls (rf E 0 :: rest)) :=
  r_get hx hb hB hK (own := RX4) (C := RX4) (T := TX4) (N := 7) (ci := 4) inB_X4 hown hW (by decide) (cX_0) rfl 2 (by decide) rfl q_221 rfl hdg kk
theorem gf_X4_23 (hx : p.tables.exec = Jvm.exec) (hb : cd.code = cc) (hB : ∀ w ∈ BG, w.before args s = true) (hK : Ks E s) (hown : s.vm.findClass RX4 = some mi.cls) (hW : Wd E x m g o H) (hdg : decode cc pc = .ok (.getfield 23, 3)) (kk : W p l e R s mi args below meth cd H locs cells slots Q (F0 mi (pc + 3) ls (rf E 54 :: rest))) : W p l e R s mi args below meth cd H locs cells slots Q (F0 mi pc ls (rf E 0 :: rest)) :=
  r_get hx hb hB hK (own := RX4) (C := RX4) (T := TX4) (N := 7) (ci := 4) inB_X4 hown hW (by decide) (cX_0) rfl 5 (by decide) rfl q_224 rfl hdg kk
theorem gf_X4_42 (hx : p.tables.exec = Jvm.exec) (hb : cd.code = cc) (hB : ∀ w ∈ BG, w.before args s = true) (hK : Ks E s) (hown : s.vm.findClass RX4 = some mi.cls) (hW : Wd E x m g o H) {b : Nat} (hbk : IsB b) (hdg : decode cc pc = .ok (.getfield 42, 3)) (kk : W p l e R s mi args below meth cd H locs cells slots Q (F0 mi (pc + 3) ls (rf E (b + 1) :: rest))) : W p l e R s mi args below meth cd H locs cells slots Q (F0 mi pc ls (rf E b :: rest)) :=
  r_getN (host := "AmendsLedger") hx hb hB hK (own := RX4) (C := RX3) (T := TX3) (N := 8) (ci := 3) inB_X3 hown hW hbk.l0 (cB_0 hbk) rfl 0 (by decide) rfl nw_190 rfl hdg kk
theorem gf_X4_88 (hx : p.tables.exec = Jvm.exec) (hb : cd.code = cc) (hB : ∀ w ∈ BG, w.before args s = true) (hK : Ks E s) (hown : s.vm.findClass RX4 = some mi.cls) (hW : Wd E x m g o H) {b : Nat} (hbk : IsB b) (hdg : decode cc pc = .ok (.getfield 88, 3)) (kk : W p l e R s mi args below meth cd H locs cells slots Q (F0 mi (pc + 3) ls (rf E (b + 7) :: rest))) : W p l e R s mi args below meth cd H locs cells slots Q (F0 mi pc ls (rf E b :: rest)) :=
  r_getN (host := "AmendsLedger") hx hb hB hK (own := RX4) (C := RX3) (T := TX3) (N := 8) (ci := 3) inB_X3 hown hW hbk.l0 (cB_0 hbk) rfl 1 (by decide) rfl nw_192 rfl hdg kk
theorem gf_X4_92 (hx : p.tables.exec = Jvm.exec) (hb : cd.code = cc) (hB : ∀ w ∈ BG, w.before args s = true) (hK : Ks E s) (hown : s.vm.findClass RX4 = some mi.cls) (hW : Wd E x m g o H) {b : Nat} (hbk : IsB b) (hdg : decode cc pc = .ok (.getfield 92, 3)) (kk : W p l e R s mi args below meth cd H locs cells slots Q (F0 mi (pc + 3) ls (.int (x (b + 7) 0) :: rest))) : W p l e R s mi args below meth cd H locs cells slots Q (F0 mi pc ls (rf E (b + 7) :: rest)) :=
  r_getN (host := "AmendsLedger") hx hb hB hK (own := RX4) (C := RX0) (T := TX0) (N := 10) (ci := 0) inB_X0 hown hW (hbk.l8 (j := 7) (by decide)) (cB_7 hbk) rfl 0 (by decide) rfl nw_119 rfl hdg kk
theorem gf_X4_125 (hx : p.tables.exec = Jvm.exec) (hb : cd.code = cc) (hB : ∀ w ∈ BG, w.before args s = true) (hK : Ks E s) (hown : s.vm.findClass RX4 = some mi.cls) (hW : Wd E x m g o H) {b : Nat} (hbk : IsB b) (hdg : decode cc pc = .ok (.getfield 125, 3)) (kk : W p l e R s mi args below meth cd H locs cells slots Q (F0 mi (pc + 3) ls (.int (x b 7) :: rest))) : W p l e R s mi args below meth cd H locs cells slots Q (F0 mi pc ls (rf E b :: rest)) :=
  r_getN (host := "AmendsLedger") hx hb hB hK (own := RX4) (C := RX3) (T := TX3) (N := 8) (ci := 3) inB_X3 hown hW hbk.l0 (cB_0 hbk) rfl 7 (by decide) rfl nw_200 rfl hdg kk
theorem gf_X4_132 (hx : p.tables.exec = Jvm.exec) (hb : cd.code = cc) (hB : ∀ w ∈ BG, w.before args s = true) (hK : Ks E s) (hown : s.vm.findClass RX4 = some mi.cls) (hW : Wd E x m g o H) (hdg : decode cc pc = .ok (.getfield 132, 3)) (kk : W p l e R s mi args below meth cd H locs cells slots Q (F0 mi (pc + 3) ls (.int (x 0 6) :: rest))) : W p l e R s mi args below meth cd H locs cells slots Q (F0 mi pc ls (rf E 0 :: rest)) :=
  r_get hx hb hB hK (own := RX4) (C := RX4) (T := TX4) (N := 7) (ci := 4) inB_X4 hown hW (by decide) (cX_0) rfl 6 (by decide) rfl q_225 rfl hdg kk
theorem gf_X4_147 (hx : p.tables.exec = Jvm.exec) (hb : cd.code = cc) (hB : ∀ w ∈ BG, w.before args s = true) (hK : Ks E s) (hown : s.vm.findClass RX4 = some mi.cls) (hW : Wd E x m g o H) (hdg : decode cc pc = .ok (.getfield 147, 3)) (kk : W p l e R s mi args below meth cd H locs cells slots Q (F0 mi (pc + 3) ls (.int (x 0 3) :: rest))) : W p l e R s mi args below meth cd H locs cells slots Q (F0 mi pc ls (rf E 0 :: rest)) :=
  r_get hx hb hB hK (own := RX4) (C := RX4) (T := TX4) (N := 7) (ci := 4) inB_X4 hown hW (by decide) (cX_0) rfl 3 (by decide) rfl q_222 rfl hdg kk
theorem gf_X4_150 (hx : p.tables.exec = Jvm.exec) (hb : cd.code = cc) (hB : ∀ w ∈ BG, w.before args s = true) (hK : Ks E s) (hown : s.vm.findClass RX4 = some mi.cls) (hW : Wd E x m g o H) (hdg : decode cc pc = .ok (.getfield 150, 3)) (kk : W p l e R s mi args below meth cd H locs cells slots Q (F0 mi (pc + 3) ls (.int (x 0 4) :: rest))) : W p l e R s mi args below meth cd H locs cells slots Q (F0 mi pc ls (rf E 0 :: rest)) :=
  r_get hx hb hB hK (own := RX4) (C := RX4) (T := TX4) (N := 7) (ci := 4) inB_X4 hown hW (by decide) (cX_0) rfl 4 (by decide) rfl q_223 rfl hdg kk
theorem gf_X4_179 (hx : p.tables.exec = Jvm.exec) (hb : cd.code = cc) (hB : ∀ w ∈ BG, w.before args s = true) (hK : Ks E s) (hown : s.vm.findClass RX4 = some mi.cls) (hW : Wd E x m g o H) {b : Nat} (hbk : IsB b) (hdg : decode cc pc = .ok (.getfield 179, 3)) (kk : W p l e R s mi args below meth cd H locs cells slots Q (F0 mi (pc + 3) ls (rf E (b + 17) :: rest))) : W p l e R s mi args below meth cd H locs cells slots Q (F0 mi pc ls (rf E b :: rest)) :=
  r_getN (host := "AmendsLedger") hx hb hB hK (own := RX4) (C := RX3) (T := TX3) (N := 8) (ci := 3) inB_X3 hown hW hbk.l0 (cB_0 hbk) rfl 2 (by decide) rfl nw_194 rfl hdg kk
theorem gf_X4_234 (hx : p.tables.exec = Jvm.exec) (hb : cd.code = cc) (hB : ∀ w ∈ BG, w.before args s = true) (hK : Ks E s) (hown : s.vm.findClass RX4 = some mi.cls) (hW : Wd E x m g o H) {b : Nat} (hbk : IsB b) (hdg : decode cc pc = .ok (.getfield 234, 3)) (kk : W p l e R s mi args below meth cd H locs cells slots Q (F0 mi (pc + 3) ls (.int (x (b + 17) 0) :: rest))) : W p l e R s mi args below meth cd H locs cells slots Q (F0 mi pc ls (rf E (b + 17) :: rest)) :=
  r_getN (host := "AmendsLedger") hx hb hB hK (own := RX4) (C := RX2) (T := TX2) (N := 5) (ci := 2) inB_X2 hown hW (hbk.l8 (j := 17) (by decide)) (cB_17 hbk) rfl 0 (by decide) rfl nw_161 rfl hdg kk
theorem gf_X5_7 (hx : p.tables.exec = Jvm.exec) (hb : cd.code = cc) (hB : ∀ w ∈ BG, w.before args s = true) (hK : Ks E s) (hown : s.vm.findClass RX5 = some mi.cls) (hW : Wd E x m g o H) (hdg : decode cc pc = .ok (.getfield 7, 3)) (kk : W p l e R s mi args below meth cd H locs cells slots Q (F0 mi (pc + 3) ls (rf E 212 :: rest))) : W p l e R s mi args below meth cd H locs cells slots Q (F0 mi pc ls (rf E 211 :: rest)) :=
  r_get hx hb hB hK (own := RX5) (C := RX5) (T := TX5) (N := 12) (ci := 5) inB_X5 hown hW (by decide) (cM_0) rfl 0 (by decide) rfl q_915 rfl hdg kk
theorem gf_X5_13 (hx : p.tables.exec = Jvm.exec) (hb : cd.code = cc) (hB : ∀ w ∈ BG, w.before args s = true) (hK : Ks E s) (hown : s.vm.findClass RX5 = some mi.cls) (hW : Wd E x m g o H) (hdg : decode cc pc = .ok (.getfield 13, 3)) (kk : W p l e R s mi args below meth cd H locs cells slots Q (F0 mi (pc + 3) ls (rf E 213 :: rest))) : W p l e R s mi args below meth cd H locs cells slots Q (F0 mi pc ls (rf E 211 :: rest)) :=
  r_get hx hb hB hK (own := RX5) (C := RX5) (T := TX5) (N := 12) (ci := 5) inB_X5 hown hW (by decide) (cM_0) rfl 1 (by decide) rfl q_916 rfl hdg kk
theorem gf_X5_16 (hx : p.tables.exec = Jvm.exec) (hb : cd.code = cc) (hB : ∀ w ∈ BG, w.before args s = true) (hK : Ks E s) (hown : s.vm.findClass RX5 = some mi.cls) (hW : Wd E x m g o H) (hdg : decode cc pc = .ok (.getfield 16, 3)) (kk : W p l e R s mi args below meth cd H locs cells slots Q (F0 mi (pc + 3) ls (rf E 214 :: rest))) : W p l e R s mi args below meth cd H locs cells slots Q (F0 mi pc ls (rf E 211 :: rest)) :=
  r_get hx hb hB hK (own := RX5) (C := RX5) (T := TX5) (N := 12) (ci := 5) inB_X5 hown hW (by decide) (cM_0) rfl 2 (by decide) rfl q_917 rfl hdg kk
theorem gf_X5_19 (hx : p.tables.exec = Jvm.exec) (hb : cd.code = cc) (hB : ∀ w ∈ BG, w.before args s = true) (hK : Ks E s) (hown : s.vm.findClass RX5 = some mi.cls) (hW : Wd E x m g o H) (hdg : decode cc pc = .ok (.getfield 19, 3)) (kk : W p l e R s mi args below meth cd H locs cells slots Q (F0 mi (pc + 3) ls (rf E 215 :: rest))) : W p l e R s mi args below meth cd H locs cells slots Q (F0 mi pc ls (rf E 211 :: rest)) :=
  r_get hx hb hB hK (own := RX5) (C := RX5) (T := TX5) (N := 12) (ci := 5) inB_X5 hown hW (by decide) (cM_0) rfl 4 (by decide) rfl q_919 rfl hdg kk
theorem gf_X5_22 (hx : p.tables.exec = Jvm.exec) (hb : cd.code = cc) (hB : ∀ w ∈ BG, w.before args s = true) (hK : Ks E s) (hown : s.vm.findClass RX5 = some mi.cls) (hW : Wd E x m g o H) (hdg : decode cc pc = .ok (.getfield 22, 3)) (kk : W p l e R s mi args below meth cd H locs cells slots Q (F0 mi (pc + 3) ls (rf E 216 :: rest))) : W p l e R s mi args below meth cd H locs cells slots Q (F0 mi pc ls (rf E 211 :: rest)) :=
  r_get hx hb hB hK (own := RX5) (C := RX5) (T := TX5) (N := 12) (ci := 5) inB_X5 hown hW (by decide) (cM_0) rfl 10 (by decide) rfl q_925 rfl hdg kk
theorem gf_X5_29 (hx : p.tables.exec = Jvm.exec) (hb : cd.code = cc) (hB : ∀ w ∈ BG, w.before args s = true) (hK : Ks E s) (hown : s.vm.findClass RX5 = some mi.cls) (hW : Wd E x m g o H) (hdg : decode cc pc = .ok (.getfield 29, 3)) (kk : W p l e R s mi args below meth cd H locs cells slots Q (F0 mi (pc + 3) ls (.int (m 0 6) :: rest))) : W p l e R s mi args below meth cd H locs cells slots Q (F0 mi pc ls (rf E 211 :: rest)) :=
  r_get hx hb hB hK (own := RX5) (C := RX5) (T := TX5) (N := 12) (ci := 5) inB_X5 hown hW (by decide) (cM_0) rfl 6 (by decide) rfl q_921 rfl hdg kk
theorem gf_X5_33 (hx : p.tables.exec = Jvm.exec) (hb : cd.code = cc) (hB : ∀ w ∈ BG, w.before args s = true) (hK : Ks E s) (hown : s.vm.findClass RX5 = some mi.cls) (hW : Wd E x m g o H) (hdg : decode cc pc = .ok (.getfield 33, 3)) (kk : W p l e R s mi args below meth cd H locs cells slots Q (F0 mi (pc + 3) ls (.int (m 0 3) :: rest))) : W p l e R s mi args below meth cd H locs cells slots Q (F0 mi pc ls (rf E 211 :: rest)) :=
  r_get hx hb hB hK (own := RX5) (C := RX5) (T := TX5) (N := 12) (ci := 5) inB_X5 hown hW (by decide) (cM_0) rfl 3 (by decide) rfl q_918 rfl hdg kk
theorem gf_X5_112 (hx : p.tables.exec = Jvm.exec) (hb : cd.code = cc) (hB : ∀ w ∈ BG, w.before args s = true) (hK : Ks E s) (hown : s.vm.findClass RX5 = some mi.cls) (hW : Wd E x m g o H) (hdg : decode cc pc = .ok (.getfield 112, 3)) (kk : W p l e R s mi args below meth cd H locs cells slots Q (F0 mi (pc + 3) ls (.int (m 0 7) :: rest))) : W p l e R s mi args below meth cd H locs cells slots Q (F0 mi pc ls (rf E 211 :: rest)) :=
  r_get hx hb hB hK (own := RX5) (C := RX5) (T := TX5) (N := 12) (ci := 5) inB_X5 hown hW (by decide) (cM_0) rfl 7 (by decide) rfl q_922 rfl hdg kk
theorem gf_X5_128 (hx : p.tables.exec = Jvm.exec) (hb : cd.code = cc) (hB : ∀ w ∈ BG, w.before args s = true) (hK : Ks E s) (hown : s.vm.findClass RX5 = some mi.cls) (hW : Wd E x m g o H) (hdg : decode cc pc = .ok (.getfield 128, 3)) (kk : W p l e R s mi args below meth cd H locs cells slots Q (F0 mi (pc + 3) ls (.int (m 0 5) :: rest))) : W p l e R s mi args below meth cd H locs cells slots Q (F0 mi pc ls (rf E 211 :: rest)) :=
  r_get hx hb hB hK (own := RX5) (C := RX5) (T := TX5) (N := 12) (ci := 5) inB_X5 hown hW (by decide) (cM_0) rfl 5 (by decide) rfl q_920 rfl hdg kk
theorem gf_X5_131 (hx : p.tables.exec = Jvm.exec) (hb : cd.code = cc) (hB : ∀ w ∈ BG, w.before args s = true) (hK : Ks E s) (hown : s.vm.findClass RX5 = some mi.cls) (hW : Wd E x m g o H) (hdg : decode cc pc = .ok (.getfield 131, 3)) (kk : W p l e R s mi args below meth cd H locs cells slots Q (F0 mi (pc + 3) ls (.int (m 0 8) :: rest))) : W p l e R s mi args below meth cd H locs cells slots Q (F0 mi pc ls (rf E 211 :: rest)) :=
  r_get hx hb hB hK (own := RX5) (C := RX5) (T := TX5) (N := 12) (ci := 5) inB_X5 hown hW (by decide) (cM_0) rfl 8 (by decide) rfl q_923 rfl hdg kk
theorem gf_X5_134 (hx : p.tables.exec = Jvm.exec) (hb : cd.code = cc) (hB : ∀ w ∈ BG, w.before args s = true) (hK : Ks E s) (hown : s.vm.findClass RX5 = some mi.cls) (hW : Wd E x m g o H) (hdg : decode cc pc = .ok (.getfield 134, 3)) (kk : W p l e R s mi args below meth cd H locs cells slots Q (F0 mi (pc + 3) ls (.int (m 0 9) :: rest))) : W p l e R s mi args below meth cd H locs cells slots Q (F0 mi pc ls (rf E 211 :: rest)) :=
  r_get hx hb hB hK (own := RX5) (C := RX5) (T := TX5) (N := 12) (ci := 5) inB_X5 hown hW (by decide) (cM_0) rfl 9 (by decide) rfl q_924 rfl hdg kk
theorem gf_X5_207 (hx : p.tables.exec = Jvm.exec) (hb : cd.code = cc) (hB : ∀ w ∈ BG, w.before args s = true) (hK : Ks E s) (hown : s.vm.findClass RX5 = some mi.cls) (hW : Wd E x m g o H) (hdg : decode cc pc = .ok (.getfield 207, 3)) (kk : W p l e R s mi args below meth cd H locs cells slots Q (F0 mi (pc + 3) ls (.long g :: rest))) : W p l e R s mi args below meth cd H locs cells slots Q (F0 mi pc ls (rf E 211 :: rest)) :=
  r_get hx hb hB hK (own := RX5) (C := RX5) (T := TX5) (N := 12) (ci := 5) inB_X5 hown hW (by decide) (cM_0) rfl 11 (by decide) rfl q_926 rfl hdg kk
theorem pf_X0_39 (hx : p.tables.exec = Jvm.exec) (hb : cd.code = cc) (hB : ∀ w ∈ BG, w.before args s = true) (hK : Ks E s) (hown : s.vm.findClass RX0 = some mi.cls) (hW : Wd E x m g o H) (hS : va_S (Ah E) s.heap H locs) {b : Nat} (hbk : IsB b) {v : Int32} {x1 : XS} (ev : x1 = ux x (b + 7) 0 v) (hdg : decode cc pc = .ok (.putfield 39, 3)) (kk : ∀ (H1 : Heap) (locs1 : List Loc), Wd E x1 m g o H1 → va_S (Ah E) s.heap H1 locs1 → W p l e R s mi args below meth cd H1 locs1 cells slots Q (F0 mi (pc + 3) ls rest)) : W p l e R s mi args below meth cd H locs cells slots Q (F0 mi pc ls (.int v :: rf E (b + 7) :: rest)) := by
  subst ev
  exact r_put hx hb hB hK (own := RX0) (C := RX0) (T := TX0) (N := 10) (ci := 0) inB_X0 tyX0 tyX0_ok nmX0 hown hW hS (hbk.l8 (j := 7) (by decide)) (cB_7 hbk) rfl 0 (by decide) rfl rfl q_118 (ty := .int) rfl (vp_nar_int v) rfl (Nat.le_of_ble_eq_true rfl) (by rw [cB_7 hbk]; simp [ux]) (cellV_ux) hdg kk
theorem pf_X2_30 (hx : p.tables.exec = Jvm.exec) (hb : cd.code = cc) (hB : ∀ w ∈ BG, w.before args s = true) (hK : Ks E s) (hown : s.vm.findClass RX2 = some mi.cls) (hW : Wd E x m g o H) (hS : va_S (Ah E) s.heap H locs) {b : Nat} (hbk : IsB b) {v : Int32} {x1 : XS} (ev : x1 = ux x (b + 17) 0 v) (hdg : decode cc pc = .ok (.putfield 30, 3)) (kk : ∀ (H1 : Heap) (locs1 : List Loc), Wd E x1 m g o H1 → va_S (Ah E) s.heap H1 locs1 → W p l e R s mi args below meth cd H1 locs1 cells slots Q (F0 mi (pc + 3) ls rest)) : W p l e R s mi args below meth cd H locs cells slots Q (F0 mi pc ls (.int v :: rf E (b + 17) :: rest)) := by
  subst ev
  exact r_put hx hb hB hK (own := RX2) (C := RX2) (T := TX2) (N := 5) (ci := 2) inB_X2 tyX2 tyX2_ok nmX2 hown hW hS (hbk.l8 (j := 17) (by decide)) (cB_17 hbk) rfl 0 (by decide) rfl rfl q_160 (ty := .int) rfl (vp_nar_int v) rfl (Nat.le_of_ble_eq_true rfl) (by rw [cB_17 hbk]; simp [ux]) (cellV_ux) hdg kk
theorem pf_X3_68 (hx : p.tables.exec = Jvm.exec) (hb : cd.code = cc) (hB : ∀ w ∈ BG, w.before args s = true) (hK : Ks E s) (hown : s.vm.findClass RX3 = some mi.cls) (hW : Wd E x m g o H) (hS : va_S (Ah E) s.heap H locs) {b : Nat} (hbk : IsB b) {v : Int32} {x1 : XS} (ev : x1 = ux x b 7 v) (hdg : decode cc pc = .ok (.putfield 68, 3)) (kk : ∀ (H1 : Heap) (locs1 : List Loc), Wd E x1 m g o H1 → va_S (Ah E) s.heap H1 locs1 → W p l e R s mi args below meth cd H1 locs1 cells slots Q (F0 mi (pc + 3) ls rest)) : W p l e R s mi args below meth cd H locs cells slots Q (F0 mi pc ls (.int v :: rf E b :: rest)) := by
  subst ev
  exact r_put hx hb hB hK (own := RX3) (C := RX3) (T := TX3) (N := 8) (ci := 3) inB_X3 tyX3 tyX3_ok nmX3 hown hW hS hbk.l0 (cB_0 hbk) rfl 7 (by decide) rfl rfl q_199 (ty := .int) rfl (vp_nar_int v) rfl (Nat.le_of_ble_eq_true rfl) (by rw [cB_0 hbk]; simp [ux]) (cellV_ux) hdg kk
theorem pf_X4_132 (hx : p.tables.exec = Jvm.exec) (hb : cd.code = cc) (hB : ∀ w ∈ BG, w.before args s = true) (hK : Ks E s) (hown : s.vm.findClass RX4 = some mi.cls) (hW : Wd E x m g o H) (hS : va_S (Ah E) s.heap H locs) {v : Int32} {x1 : XS} (ev : x1 = ux x 0 6 v) (hdg : decode cc pc = .ok (.putfield 132, 3)) (kk : ∀ (H1 : Heap) (locs1 : List Loc), Wd E x1 m g o H1 → va_S (Ah E) s.heap H1 locs1 → W p l e R s mi args below meth cd H1 locs1 cells slots Q (F0 mi (pc + 3) ls rest)) : W p l e R s mi args below meth cd H locs cells slots Q (F0 mi pc ls (.int v :: rf E 0 :: rest)) := by
  subst ev
  exact r_put hx hb hB hK (own := RX4) (C := RX4) (T := TX4) (N := 7) (ci := 4) inB_X4 tyX4 tyX4_ok nmX4 hown hW hS (by decide) (cX_0) rfl 6 (by decide) rfl rfl q_225 (ty := .int) rfl (vp_nar_int v) rfl (Nat.le_of_ble_eq_true rfl) (by rw [cX_0]; simp [ux]) (cellV_ux) hdg kk
theorem pf_X4_147 (hx : p.tables.exec = Jvm.exec) (hb : cd.code = cc) (hB : ∀ w ∈ BG, w.before args s = true) (hK : Ks E s) (hown : s.vm.findClass RX4 = some mi.cls) (hW : Wd E x m g o H) (hS : va_S (Ah E) s.heap H locs) {v : Int32} {x1 : XS} (ev : x1 = ux x 0 3 v) (hdg : decode cc pc = .ok (.putfield 147, 3)) (kk : ∀ (H1 : Heap) (locs1 : List Loc), Wd E x1 m g o H1 → va_S (Ah E) s.heap H1 locs1 → W p l e R s mi args below meth cd H1 locs1 cells slots Q (F0 mi (pc + 3) ls rest)) : W p l e R s mi args below meth cd H locs cells slots Q (F0 mi pc ls (.int v :: rf E 0 :: rest)) := by
  subst ev
  exact r_put hx hb hB hK (own := RX4) (C := RX4) (T := TX4) (N := 7) (ci := 4) inB_X4 tyX4 tyX4_ok nmX4 hown hW hS (by decide) (cX_0) rfl 3 (by decide) rfl rfl q_222 (ty := .int) rfl (vp_nar_int v) rfl (Nat.le_of_ble_eq_true rfl) (by rw [cX_0]; simp [ux]) (cellV_ux) hdg kk
theorem pf_X4_150 (hx : p.tables.exec = Jvm.exec) (hb : cd.code = cc) (hB : ∀ w ∈ BG, w.before args s = true) (hK : Ks E s) (hown : s.vm.findClass RX4 = some mi.cls) (hW : Wd E x m g o H) (hS : va_S (Ah E) s.heap H locs) {v : Int32} {x1 : XS} (ev : x1 = ux x 0 4 v) (hdg : decode cc pc = .ok (.putfield 150, 3)) (kk : ∀ (H1 : Heap) (locs1 : List Loc), Wd E x1 m g o H1 → va_S (Ah E) s.heap H1 locs1 → W p l e R s mi args below meth cd H1 locs1 cells slots Q (F0 mi (pc + 3) ls rest)) : W p l e R s mi args below meth cd H locs cells slots Q (F0 mi pc ls (.int v :: rf E 0 :: rest)) := by
  subst ev
  exact r_put hx hb hB hK (own := RX4) (C := RX4) (T := TX4) (N := 7) (ci := 4) inB_X4 tyX4 tyX4_ok nmX4 hown hW hS (by decide) (cX_0) rfl 4 (by decide) rfl rfl q_223 (ty := .int) rfl (vp_nar_int v) rfl (Nat.le_of_ble_eq_true rfl) (by rw [cX_0]; simp [ux]) (cellV_ux) hdg kk
theorem pf_X5_29 (hx : p.tables.exec = Jvm.exec) (hb : cd.code = cc) (hB : ∀ w ∈ BG, w.before args s = true) (hK : Ks E s) (hown : s.vm.findClass RX5 = some mi.cls) (hW : Wd E x m g o H) (hS : va_S (Ah E) s.heap H locs) {v : Int32} {x1 : XS} (ev : x1 = ux m 0 6 v) (hdg : decode cc pc = .ok (.putfield 29, 3)) (kk : ∀ (H1 : Heap) (locs1 : List Loc), Wd E x x1 g o H1 → va_S (Ah E) s.heap H1 locs1 → W p l e R s mi args below meth cd H1 locs1 cells slots Q (F0 mi (pc + 3) ls rest)) : W p l e R s mi args below meth cd H locs cells slots Q (F0 mi pc ls (.int v :: rf E 211 :: rest)) := by
  subst ev
  exact r_put hx hb hB hK (own := RX5) (C := RX5) (T := TX5) (N := 12) (ci := 5) inB_X5 tyX5 tyX5_ok nmX5 hown hW hS (by decide) (cM_0) rfl 6 (by decide) rfl rfl q_921 (ty := .int) rfl (vp_nar_int v) rfl (Nat.le_of_ble_eq_true rfl) (by rw [cM_0]; simp [ux]) (cellV_um (k := 0)) hdg kk
theorem pf_X5_33 (hx : p.tables.exec = Jvm.exec) (hb : cd.code = cc) (hB : ∀ w ∈ BG, w.before args s = true) (hK : Ks E s) (hown : s.vm.findClass RX5 = some mi.cls) (hW : Wd E x m g o H) (hS : va_S (Ah E) s.heap H locs) {v : Int32} {x1 : XS} (ev : x1 = ux m 0 3 v) (hdg : decode cc pc = .ok (.putfield 33, 3)) (kk : ∀ (H1 : Heap) (locs1 : List Loc), Wd E x x1 g o H1 → va_S (Ah E) s.heap H1 locs1 → W p l e R s mi args below meth cd H1 locs1 cells slots Q (F0 mi (pc + 3) ls rest)) : W p l e R s mi args below meth cd H locs cells slots Q (F0 mi pc ls (.int v :: rf E 211 :: rest)) := by
  subst ev
  exact r_put hx hb hB hK (own := RX5) (C := RX5) (T := TX5) (N := 12) (ci := 5) inB_X5 tyX5 tyX5_ok nmX5 hown hW hS (by decide) (cM_0) rfl 3 (by decide) rfl rfl q_918 (ty := .int) rfl (vp_nar_int v) rfl (Nat.le_of_ble_eq_true rfl) (by rw [cM_0]; simp [ux]) (cellV_um (k := 0)) hdg kk
theorem pf_X5_112 (hx : p.tables.exec = Jvm.exec) (hb : cd.code = cc) (hB : ∀ w ∈ BG, w.before args s = true) (hK : Ks E s) (hown : s.vm.findClass RX5 = some mi.cls) (hW : Wd E x m g o H) (hS : va_S (Ah E) s.heap H locs) {v : Int32} {x1 : XS} (ev : x1 = ux m 0 7 v) (hdg : decode cc pc = .ok (.putfield 112, 3)) (kk : ∀ (H1 : Heap) (locs1 : List Loc), Wd E x x1 g o H1 → va_S (Ah E) s.heap H1 locs1 → W p l e R s mi args below meth cd H1 locs1 cells slots Q (F0 mi (pc + 3) ls rest)) : W p l e R s mi args below meth cd H locs cells slots Q (F0 mi pc ls (.int v :: rf E 211 :: rest)) := by
  subst ev
  exact r_put hx hb hB hK (own := RX5) (C := RX5) (T := TX5) (N := 12) (ci := 5) inB_X5 tyX5 tyX5_ok nmX5 hown hW hS (by decide) (cM_0) rfl 7 (by decide) rfl rfl q_922 (ty := .int) rfl (vp_nar_int v) rfl (Nat.le_of_ble_eq_true rfl) (by rw [cM_0]; simp [ux]) (cellV_um (k := 0)) hdg kk
theorem pf_X5_128 (hx : p.tables.exec = Jvm.exec) (hb : cd.code = cc) (hB : ∀ w ∈ BG, w.before args s = true) (hK : Ks E s) (hown : s.vm.findClass RX5 = some mi.cls) (hW : Wd E x m g o H) (hS : va_S (Ah E) s.heap H locs) {v : Int32} {x1 : XS} (ev : x1 = ux m 0 5 v) (hdg : decode cc pc = .ok (.putfield 128, 3)) (kk : ∀ (H1 : Heap) (locs1 : List Loc), Wd E x x1 g o H1 → va_S (Ah E) s.heap H1 locs1 → W p l e R s mi args below meth cd H1 locs1 cells slots Q (F0 mi (pc + 3) ls rest)) : W p l e R s mi args below meth cd H locs cells slots Q (F0 mi pc ls (.int v :: rf E 211 :: rest)) := by
  subst ev
  exact r_put hx hb hB hK (own := RX5) (C := RX5) (T := TX5) (N := 12) (ci := 5) inB_X5 tyX5 tyX5_ok nmX5 hown hW hS (by decide) (cM_0) rfl 5 (by decide) rfl rfl q_920 (ty := .int) rfl (vp_nar_int v) rfl (Nat.le_of_ble_eq_true rfl) (by rw [cM_0]; simp [ux]) (cellV_um (k := 0)) hdg kk
theorem pf_X5_131 (hx : p.tables.exec = Jvm.exec) (hb : cd.code = cc) (hB : ∀ w ∈ BG, w.before args s = true) (hK : Ks E s) (hown : s.vm.findClass RX5 = some mi.cls) (hW : Wd E x m g o H) (hS : va_S (Ah E) s.heap H locs) {v : Int32} {x1 : XS} (ev : x1 = ux m 0 8 v) (hdg : decode cc pc = .ok (.putfield 131, 3)) (kk : ∀ (H1 : Heap) (locs1 : List Loc), Wd E x x1 g o H1 → va_S (Ah E) s.heap H1 locs1 → W p l e R s mi args below meth cd H1 locs1 cells slots Q (F0 mi (pc + 3) ls rest)) : W p l e R s mi args below meth cd H locs cells slots Q (F0 mi pc ls (.int v :: rf E 211 :: rest)) := by
  subst ev
  exact r_put hx hb hB hK (own := RX5) (C := RX5) (T := TX5) (N := 12) (ci := 5) inB_X5 tyX5 tyX5_ok nmX5 hown hW hS (by decide) (cM_0) rfl 8 (by decide) rfl rfl q_923 (ty := .int) rfl (vp_nar_int v) rfl (Nat.le_of_ble_eq_true rfl) (by rw [cM_0]; simp [ux]) (cellV_um (k := 0)) hdg kk
theorem pf_X5_134 (hx : p.tables.exec = Jvm.exec) (hb : cd.code = cc) (hB : ∀ w ∈ BG, w.before args s = true) (hK : Ks E s) (hown : s.vm.findClass RX5 = some mi.cls) (hW : Wd E x m g o H) (hS : va_S (Ah E) s.heap H locs) {v : Int32} {x1 : XS} (ev : x1 = ux m 0 9 v) (hdg : decode cc pc = .ok (.putfield 134, 3)) (kk : ∀ (H1 : Heap) (locs1 : List Loc), Wd E x x1 g o H1 → va_S (Ah E) s.heap H1 locs1 → W p l e R s mi args below meth cd H1 locs1 cells slots Q (F0 mi (pc + 3) ls rest)) : W p l e R s mi args below meth cd H locs cells slots Q (F0 mi pc ls (.int v :: rf E 211 :: rest)) := by
  subst ev
  exact r_put hx hb hB hK (own := RX5) (C := RX5) (T := TX5) (N := 12) (ci := 5) inB_X5 tyX5 tyX5_ok nmX5 hown hW hS (by decide) (cM_0) rfl 9 (by decide) rfl rfl q_924 (ty := .int) rfl (vp_nar_int v) rfl (Nat.le_of_ble_eq_true rfl) (by rw [cM_0]; simp [ux]) (cellV_um (k := 0)) hdg kk
theorem pf_X5_207 (hx : p.tables.exec = Jvm.exec) (hb : cd.code = cc) (hB : ∀ w ∈ BG, w.before args s = true) (hK : Ks E s) (hown : s.vm.findClass RX5 = some mi.cls) (hW : Wd E x m g o H) (hS : va_S (Ah E) s.heap H locs) {v : Int64} {x1 : Int64} (ev : x1 = v) (hdg : decode cc pc = .ok (.putfield 207, 3)) (kk : ∀ (H1 : Heap) (locs1 : List Loc), Wd E x m x1 o H1 → va_S (Ah E) s.heap H1 locs1 → W p l e R s mi args below meth cd H1 locs1 cells slots Q (F0 mi (pc + 3) ls rest)) : W p l e R s mi args below meth cd H locs cells slots Q (F0 mi pc ls (.long v :: rf E 211 :: rest)) := by
  subst ev
  exact r_put hx hb hB hK (own := RX5) (C := RX5) (T := TX5) (N := 12) (ci := 5) inB_X5 tyX5 tyX5_ok nmX5 hown hW hS (by decide) (cM_0) rfl 11 (by decide) rfl rfl q_926 (ty := .long) rfl (rfl) rfl (Nat.le_of_ble_eq_true rfl) cM_0 (cellV_h) hdg kk
theorem kc_JD_122 (hB : ∀ w ∈ BG, w.before args s = true) (hR : (rmH 0).frames + 1 ≤ R.frames ∧ 8 + (2 + 11) + (rmH 0).locals ≤ R.locals) : CallB R s args RJD 122 yJD_isNaN cJD_isNaN 2 (some .boolean) (wsM yJD_isNaN cJD_isNaN 2 (some .boolean)) (rmH 0) 0 0 1 ∧ (Cond.static yJD_isNaN).before args s = true := k_S hB q_1273 q_74 q_1271 q_1272 (by decide +kernel) hR
theorem kc_X0_43 (hB : ∀ w ∈ BG, w.before args s = true) (hK : Ks E s) (hR : (rmH 2).frames + 1 ≤ R.frames ∧ 8 + (2 + 11) + (rmH 2).locals ≤ R.locals) : va_CN R s args RX0 43 yX4_copyAll RX4 cX4_copyAll 2 none (wsM yX4_copyAll cX4_copyAll 2 none) (rmH 2) 0 0 2 ∧ (Cond.static yX4_copyAll).before args s = true ∧ True := k_SN hB hK q_181 q_58 nw_323 q_180 (by decide +kernel) hR
theorem kc_X0_47 (hB : ∀ w ∈ BG, w.before args s = true) (hR : (rmH 0).frames + 1 ≤ R.frames ∧ 8 + (2 + 11) + (rmH 0).locals ≤ R.locals) : CallW R s args RX0 RX0 47 yX0_has cX0_has 2 (some .boolean) (wsM yX0_has cX0_has 2 (some .boolean)) (rmH 0) 0 0 1 := k_V hB q_278 q_61 q_275 q_276 q_277 (by decide +kernel) hR
theorem kc_X0_51 (hB : ∀ w ∈ BG, w.before args s = true) (hR : (rmH 1).frames + 1 ≤ R.frames ∧ 8 + (2 + 11) + (rmH 1).locals ≤ R.locals) : CallW R s args RX0 RX0 51 yX0_stageOf cX0_stageOf 2 (some .int) (wsM yX0_stageOf cX0_stageOf 2 (some .int)) (rmH 1) 0 0 1 := k_V hB q_368 q_61 q_365 q_366 q_367 (by decide +kernel) hR
theorem kc_X0_55 (hB : ∀ w ∈ BG, w.before args s = true) (hR : (rmH 1).frames + 1 ≤ R.frames ∧ 8 + (2 + 11) + (rmH 1).locals ≤ R.locals) : CallW R s args RX0 RX0 55 yX0_kindOf cX0_kindOf 2 (some .int) (wsM yX0_kindOf cX0_kindOf 2 (some .int)) (rmH 1) 0 0 1 := k_V hB q_286 q_61 q_466 q_284 q_285 (by decide +kernel) hR
theorem kc_X0_58 (hB : ∀ w ∈ BG, w.before args s = true) (hR : (rmH 1).frames + 1 ≤ R.frames ∧ 8 + (2 + 11) + (rmH 1).locals ≤ R.locals) : CallW R s args RX0 RX0 58 yX0_amendsOf cX0_amendsOf 2 (some .int) (wsM yX0_amendsOf cX0_amendsOf 2 (some .int)) (rmH 1) 0 0 1 := k_V hB q_561 q_61 q_558 q_559 q_560 (by decide +kernel) hR
theorem kc_X0_61 (hB : ∀ w ∈ BG, w.before args s = true) (hR : (rmH 1).frames + 1 ≤ R.frames ∧ 8 + (2 + 11) + (rmH 1).locals ≤ R.locals) : CallW R s args RX0 RX0 61 yX0_followedBy cX0_followedBy 2 (some .int) (wsM yX0_followedBy cX0_followedBy 2 (some .int)) (rmH 1) 0 0 1 := k_V hB q_274 q_61 q_476 q_272 q_273 (by decide +kernel) hR
theorem kc_X0_64 (hB : ∀ w ∈ BG, w.before args s = true) (hR : (rmH 1).frames + 1 ≤ R.frames ∧ 8 + (2 + 11) + (rmH 1).locals ≤ R.locals) : CallW R s args RX0 RX0 64 yX0_customerOf cX0_customerOf 2 (some .int) (wsM yX0_customerOf cX0_customerOf 2 (some .int)) (rmH 1) 0 0 1 := k_V hB q_612 q_61 q_688 q_610 q_611 (by decide +kernel) hR
theorem kc_X0_67 (hB : ∀ w ∈ BG, w.before args s = true) (hR : (rmH 1).frames + 1 ≤ R.frames ∧ 8 + (2 + 11) + (rmH 1).locals ≤ R.locals) : CallW R s args RX0 RX0 67 yX0_gotOf cX0_gotOf 2 (some .int) (wsM yX0_gotOf cX0_gotOf 2 (some .int)) (rmH 1) 0 0 1 := k_V hB q_306 q_61 q_467 q_304 q_305 (by decide +kernel) hR
theorem kc_X0_70 (hB : ∀ w ∈ BG, w.before args s = true) (hR : (rmH 2).frames + 1 ≤ R.frames ∧ 8 + (4 + 11) + (rmH 2).locals ≤ R.locals) : CallW R s args RX0 RX0 70 yX0_gotInKind cX0_gotInKind 4 (some .int) (wsM yX0_gotInKind cX0_gotInKind 4 (some .int)) (rmH 2) 0 0 1 := k_V hB q_465 q_61 q_462 q_463 q_464 (by decide +kernel) hR
theorem kc_X0_73 (hB : ∀ w ∈ BG, w.before args s = true) (hR : (rmH 2).frames + 1 ≤ R.frames ∧ 8 + (3 + 11) + (rmH 2).locals ≤ R.locals) : CallW R s args RX0 RX0 73 yX0_areAlike cX0_areAlike 3 (some .boolean) (wsM yX0_areAlike cX0_areAlike 3 (some .boolean)) (rmH 2) 0 0 2 := k_V hB q_475 q_61 q_472 q_474 q_4 (by decide +kernel) hR
theorem kc_X1_27 (hB : ∀ w ∈ BG, w.before args s = true) (hK : Ks E s) (hR : (rmH 2).frames + 1 ≤ R.frames ∧ 8 + (2 + 11) + (rmH 2).locals ≤ R.locals) : va_CN R s args RX1 27 yX4_copyAll RX4 cX4_copyAll 2 none (wsM yX4_copyAll cX4_copyAll 2 none) (rmH 2) 0 0 2 ∧ (Cond.static yX4_copyAll).before args s = true ∧ True := k_SN hB hK q_181 q_58 nw_318 q_180 (by decide +kernel) hR
theorem kc_X1_31 (hB : ∀ w ∈ BG, w.before args s = true) (hK : Ks E s) (hR : (rmH 0).frames + 1 ≤ R.frames ∧ 8 + (1 + 11) + (rmH 0).locals ≤ R.locals) : va_CN R s args RX1 31 yX4_isKind RX4 cX4_isKind 1 (some .boolean) (wsM yX4_isKind cX4_isKind 1 (some .boolean)) (rmH 0) 0 0 1 ∧ (Cond.static yX4_isKind).before args s = true ∧ True := k_SN hB hK q_302 q_58 nw_300 q_301 (by decide +kernel) hR
theorem kc_X1_35 (hB : ∀ w ∈ BG, w.before args s = true) (hR : (rmH 1).frames + 1 ≤ R.frames ∧ 8 + (3 + 11) + (rmH 1).locals ≤ R.locals) : CallW R s args RX1 RX1 35 yX1_has cX1_has 3 (some .boolean) (wsM yX1_has cX1_has 3 (some .boolean)) (rmH 1) 0 0 2 := k_V hB q_299 q_60 q_296 q_297 q_298 (by decide +kernel) hR
theorem kc_X1_39 (hB : ∀ w ∈ BG, w.before args s = true) (hR : (rmH 2).frames + 1 ≤ R.frames ∧ 8 + (3 + 11) + (rmH 2).locals ≤ R.locals) : CallW R s args RX1 RX1 39 yX1_leastOf cX1_leastOf 3 (some .int) (wsM yX1_leastOf cX1_leastOf 3 (some .int)) (rmH 2) 0 0 2 := k_V hB q_545 q_60 q_639 q_543 q_544 (by decide +kernel) hR
theorem kc_X1_43 (hB : ∀ w ∈ BG, w.before args s = true) (hR : (rmH 2).frames + 1 ≤ R.frames ∧ 8 + (3 + 11) + (rmH 2).locals ≤ R.locals) : CallW R s args RX1 RX1 43 yX1_mostOf cX1_mostOf 3 (some .int) (wsM yX1_mostOf cX1_mostOf 3 (some .int)) (rmH 2) 0 0 2 := k_V hB q_549 q_60 q_640 q_547 q_548 (by decide +kernel) hR
theorem kc_X1_46 (hB : ∀ w ∈ BG, w.before args s = true) (hK : Ks E s) (hR : (rmH 0).frames + 1 ≤ R.frames ∧ 8 + (3 + 11) + (rmH 0).locals ≤ R.locals) : va_CN R s args RX1 46 yX4_isWithin RX4 cX4_isWithin 3 (some .boolean) (wsM yX4_isWithin cX4_isWithin 3 (some .boolean)) (rmH 0) 0 0 3 ∧ (Cond.static yX4_isWithin).before args s = true ∧ True := k_SN hB hK q_255 q_58 nw_641 q_254 (by decide +kernel) hR
theorem kc_X1_50 (hB : ∀ w ∈ BG, w.before args s = true) (hR : (rmH 1).frames + 1 ≤ R.frames ∧ 8 + (2 + 11) + (rmH 1).locals ≤ R.locals) : CallW R s args RX1 RX1 50 yX1_sizeOf cX1_sizeOf 2 (some .int) (wsM yX1_sizeOf cX1_sizeOf 2 (some .int)) (rmH 1) 0 0 1 := k_V hB q_526 q_60 q_752 q_524 q_525 (by decide +kernel) hR
theorem kc_X1_54 (hB : ∀ w ∈ BG, w.before args s = true) (hR : (rmH 2).frames + 1 ≤ R.frames ∧ 8 + (3 + 11) + (rmH 2).locals ≤ R.locals) : CallW R s args RX1 RX1 54 yX1_isOffered cX1_isOffered 3 (some .boolean) (wsM yX1_isOffered cX1_isOffered 3 (some .boolean)) (rmH 2) 0 0 2 := k_V hB q_553 q_60 q_753 q_551 q_552 (by decide +kernel) hR
theorem kc_X2_34 (hB : ∀ w ∈ BG, w.before args s = true) (hK : Ks E s) (hR : (rmH 2).frames + 1 ≤ R.frames ∧ 8 + (2 + 11) + (rmH 2).locals ≤ R.locals) : va_CN R s args RX2 34 yX4_copyAll RX4 cX4_copyAll 2 none (wsM yX4_copyAll cX4_copyAll 2 none) (rmH 2) 0 0 2 ∧ (Cond.static yX4_copyAll).before args s = true ∧ True := k_SN hB hK q_181 q_58 nw_328 q_180 (by decide +kernel) hR
theorem kc_X2_38 (hB : ∀ w ∈ BG, w.before args s = true) (hK : Ks E s) (hR : (rmH 0).frames + 1 ≤ R.frames ∧ 8 + (1 + 11) + (rmH 0).locals ≤ R.locals) : va_CN R s args RX2 38 yX4_isKind RX4 cX4_isKind 1 (some .boolean) (wsM yX4_isKind cX4_isKind 1 (some .boolean)) (rmH 0) 0 0 1 ∧ (Cond.static yX4_isKind).before args s = true ∧ True := k_SN hB hK q_302 q_58 nw_573 q_301 (by decide +kernel) hR
theorem kc_X2_42 (hB : ∀ w ∈ BG, w.before args s = true) (hK : Ks E s) (hR : (rmH 0).frames + 1 ≤ R.frames ∧ 8 + (1 + 11) + (rmH 0).locals ≤ R.locals) : va_CN R s args RX2 42 yX4_isGroup RX4 cX4_isGroup 1 (some .boolean) (wsM yX4_isGroup cX4_isGroup 1 (some .boolean)) (rmH 0) 0 0 1 ∧ (Cond.static yX4_isGroup).before args s = true ∧ True := k_SN hB hK q_568 q_58 nw_574 q_567 (by decide +kernel) hR
theorem kc_X2_45 (hB : ∀ w ∈ BG, w.before args s = true) (hR : (rmH 0).frames + 1 ≤ R.frames ∧ 8 + (2 + 11) + (rmH 0).locals ≤ R.locals) : CallW R s args RX2 RX2 45 yX2_has cX2_has 2 (some .boolean) (wsM yX2_has cX2_has 2 (some .boolean)) (rmH 0) 0 0 1 := k_V hB q_282 q_62 q_291 q_280 q_281 (by decide +kernel) hR
theorem kc_X3_48 (hB : ∀ w ∈ BG, w.before args s = true) (hK : Ks E s) (hR : (rmH 2).frames + 1 ≤ R.frames ∧ 8 + (2 + 11) + (rmH 2).locals ≤ R.locals) : va_CN R s args RX3 48 yX4_copyAll RX4 cX4_copyAll 2 none (wsM yX4_copyAll cX4_copyAll 2 none) (rmH 2) 0 0 2 ∧ (Cond.static yX4_copyAll).before args s = true ∧ True := k_SN hB hK q_181 q_58 nw_179 q_180 (by decide +kernel) hR
theorem kc_X3_58 (hB : ∀ w ∈ BG, w.before args s = true) (hR : (rmH 3).frames + 1 ≤ R.frames ∧ 8 + (2 + 11) + (rmH 3).locals ≤ R.locals) : CallW R s args RX3 RX1 58 yX1_copyFrom cX1_copyFrom 2 none (wsM yX1_copyFrom cX1_copyFrom 2 none) (rmH 3) 0 0 1 := k_V hB q_317 q_60 q_314 q_315 q_316 (by decide +kernel) hR
theorem kc_X3_62 (hB : ∀ w ∈ BG, w.before args s = true) (hR : (rmH 3).frames + 1 ≤ R.frames ∧ 8 + (2 + 11) + (rmH 3).locals ≤ R.locals) : CallW R s args RX3 RX0 62 yX0_copyFrom cX0_copyFrom 2 none (wsM yX0_copyFrom cX0_copyFrom 2 none) (rmH 3) 0 0 1 := k_V hB q_322 q_61 q_319 q_320 q_321 (by decide +kernel) hR
theorem kc_X3_65 (hB : ∀ w ∈ BG, w.before args s = true) (hR : (rmH 3).frames + 1 ≤ R.frames ∧ 8 + (2 + 11) + (rmH 3).locals ≤ R.locals) : CallW R s args RX3 RX2 65 yX2_copyFrom cX2_copyFrom 2 none (wsM yX2_copyFrom cX2_copyFrom 2 none) (rmH 3) 0 0 1 := k_V hB q_327 q_62 q_324 q_325 q_326 (by decide +kernel) hR
theorem kc_X3_72 (hB : ∀ w ∈ BG, w.before args s = true) (hK : Ks E s) (hR : (rmH 0).frames + 1 ≤ R.frames ∧ 8 + (1 + 11) + (rmH 0).locals ≤ R.locals) : va_CN R s args RX3 72 yX4_isSetting RX4 cX4_isSetting 1 (some .boolean) (wsM yX4_isSetting cX4_isSetting 1 (some .boolean)) (rmH 0) 0 0 1 ∧ (Cond.static yX4_isSetting).before args s = true ∧ True := k_SN hB hK q_344 q_58 nw_342 q_343 (by decide +kernel) hR
theorem kc_X3_76 (hB : ∀ w ∈ BG, w.before args s = true) (hK : Ks E s) (hR : (rmH 0).frames + 1 ≤ R.frames ∧ 8 + (1 + 11) + (rmH 0).locals ≤ R.locals) : va_CN R s args RX3 76 yX4_isKind RX4 cX4_isKind 1 (some .boolean) (wsM yX4_isKind cX4_isKind 1 (some .boolean)) (rmH 0) 0 0 1 ∧ (Cond.static yX4_isKind).before args s = true ∧ True := k_SN hB hK q_302 q_58 nw_337 q_301 (by decide +kernel) hR
theorem kc_X3_79 (hB : ∀ w ∈ BG, w.before args s = true) (hR : (rmH 1).frames + 1 ≤ R.frames ∧ 8 + (2 + 11) + (rmH 1).locals ≤ R.locals) : CallW R s args RX3 RX3 79 yX3_settingOf cX3_settingOf 2 (some .int) (wsM yX3_settingOf cX3_settingOf 2 (some .int)) (rmH 1) 0 0 1 := k_V hB q_341 q_59 q_338 q_339 q_340 (by decide +kernel) hR
theorem kc_X3_83 (hB : ∀ w ∈ BG, w.before args s = true) (hR : (rmH 1).frames + 1 ≤ R.frames ∧ 8 + (2 + 11) + (rmH 1).locals ≤ R.locals) : CallW R s args RX3 RX3 83 yX3_baseOf cX3_baseOf 2 (some .int) (wsM yX3_baseOf cX3_baseOf 2 (some .int)) (rmH 1) 0 0 1 := k_V hB q_513 q_59 q_765 q_511 q_512 (by decide +kernel) hR
theorem kc_X3_86 (hB : ∀ w ∈ BG, w.before args s = true) (hR : (rmH 0).frames + 1 ≤ R.frames ∧ 8 + (2 + 11) + (rmH 0).locals ≤ R.locals) : CallW R s args RX3 RX2 86 yX2_has cX2_has 2 (some .boolean) (wsM yX2_has cX2_has 2 (some .boolean)) (rmH 0) 0 0 1 := k_V hB q_282 q_62 q_279 q_280 q_281 (by decide +kernel) hR
theorem kc_X3_89 (hB : ∀ w ∈ BG, w.before args s = true) (hR : (rmH 1).frames + 1 ≤ R.frames ∧ 8 + (2 + 11) + (rmH 1).locals ≤ R.locals) : CallW R s args RX3 RX2 89 yX2_monthOf cX2_monthOf 2 (some .int) (wsM yX2_monthOf cX2_monthOf 2 (some .int)) (rmH 1) 0 0 1 := k_V hB q_580 q_62 q_586 q_578 q_579 (by decide +kernel) hR
theorem kc_X3_92 (hB : ∀ w ∈ BG, w.before args s = true) (hR : (rmH 1).frames + 1 ≤ R.frames ∧ 8 + (2 + 11) + (rmH 1).locals ≤ R.locals) : CallW R s args RX3 RX2 92 yX2_amendsOf cX2_amendsOf 2 (some .int) (wsM yX2_amendsOf cX2_amendsOf 2 (some .int)) (rmH 1) 0 0 1 := k_V hB q_290 q_62 q_287 q_288 q_289 (by decide +kernel) hR
theorem kc_X3_95 (hB : ∀ w ∈ BG, w.before args s = true) (hR : (rmH 2).frames + 1 ≤ R.frames ∧ 8 + (3 + 11) + (rmH 2).locals ≤ R.locals) : CallW R s args RX3 RX1 95 yX1_isOffered cX1_isOffered 3 (some .boolean) (wsM yX1_isOffered cX1_isOffered 3 (some .boolean)) (rmH 2) 0 0 2 := k_V hB q_553 q_60 q_587 q_551 q_552 (by decide +kernel) hR
theorem kc_X3_99 (hB : ∀ w ∈ BG, w.before args s = true) (hR : (rmH 1).frames + 1 ≤ R.frames ∧ 8 + (2 + 11) + (rmH 1).locals ≤ R.locals) : CallW R s args RX3 RX0 99 yX0_kindOf cX0_kindOf 2 (some .int) (wsM yX0_kindOf cX0_kindOf 2 (some .int)) (rmH 1) 0 0 1 := k_V hB q_286 q_61 q_283 q_284 q_285 (by decide +kernel) hR
theorem kc_X3_102 (hB : ∀ w ∈ BG, w.before args s = true) (hR : (rmH 1).frames + 1 ≤ R.frames ∧ 8 + (2 + 11) + (rmH 1).locals ≤ R.locals) : CallW R s args RX3 RX0 102 yX0_groupOf cX0_groupOf 2 (some .int) (wsM yX0_groupOf cX0_groupOf 2 (some .int)) (rmH 1) 0 0 1 := k_V hB q_616 q_61 q_613 q_614 q_615 (by decide +kernel) hR
theorem kc_X3_105 (hB : ∀ w ∈ BG, w.before args s = true) (hR : (rmH 1).frames + 1 ≤ R.frames ∧ 8 + (3 + 11) + (rmH 1).locals ≤ R.locals) : CallW R s args RX3 RX2 105 yX2_latestOf cX2_latestOf 3 (some .int) (wsM yX2_latestOf cX2_latestOf 3 (some .int)) (rmH 1) 0 0 2 := k_V hB q_572 q_62 q_646 q_570 q_571 (by decide +kernel) hR
theorem kc_X3_109 (hB : ∀ w ∈ BG, w.before args s = true) (hR : (rmH 3).frames + 1 ≤ R.frames ∧ 8 + (3 + 11) + (rmH 3).locals ≤ R.locals) : CallW R s args RX3 RX3 109 yX3_isBinding cX3_isBinding 3 (some .boolean) (wsM yX3_isBinding cX3_isBinding 3 (some .boolean)) (rmH 3) 0 0 2 := k_V hB q_585 q_59 q_647 q_583 q_584 (by decide +kernel) hR
theorem kc_X3_112 (hB : ∀ w ∈ BG, w.before args s = true) (hR : (rmH 1).frames + 1 ≤ R.frames ∧ 8 + (2 + 11) + (rmH 1).locals ≤ R.locals) : CallW R s args RX3 RX0 112 yX0_stageOf cX0_stageOf 2 (some .int) (wsM yX0_stageOf cX0_stageOf 2 (some .int)) (rmH 1) 0 0 1 := k_V hB q_368 q_61 q_377 q_366 q_367 (by decide +kernel) hR
theorem kc_X3_115 (hB : ∀ w ∈ BG, w.before args s = true) (hR : (rmH 1).frames + 1 ≤ R.frames ∧ 8 + (2 + 11) + (rmH 1).locals ≤ R.locals) : CallW R s args RX3 RX0 115 yX0_followedBy cX0_followedBy 2 (some .int) (wsM yX0_followedBy cX0_followedBy 2 (some .int)) (rmH 1) 0 0 1 := k_V hB q_274 q_61 q_271 q_272 q_273 (by decide +kernel) hR
theorem kc_X3_118 (hB : ∀ w ∈ BG, w.before args s = true) (hR : (rmH 1).frames + 1 ≤ R.frames ∧ 8 + (2 + 11) + (rmH 1).locals ≤ R.locals) : CallW R s args RX3 RX2 118 yX2_setterOf cX2_setterOf 2 (some .int) (wsM yX2_setterOf cX2_setterOf 2 (some .int)) (rmH 1) 0 0 1 := k_V hB q_381 q_62 q_378 q_379 q_380 (by decide +kernel) hR
theorem kc_X3_124 (hB : ∀ w ∈ BG, w.before args s = true) (hR : (rmH 2).frames + 1 ≤ R.frames ∧ 8 + (3 + 11) + (rmH 2).locals ≤ R.locals) : CallW R s args RX3 RX3 124 yX3_tieOf cX3_tieOf 3 (some .int) (wsM yX3_tieOf cX3_tieOf 3 (some .int)) (rmH 2) 0 0 1 := k_V hB q_376 q_59 q_373 q_374 q_375 (by decide +kernel) hR
theorem kc_X3_127 (hB : ∀ w ∈ BG, w.before args s = true) (hR : (rmH 1).frames + 1 ≤ R.frames ∧ 8 + (2 + 11) + (rmH 1).locals ≤ R.locals) : CallW R s args RX3 RX0 127 yX0_severityOf cX0_severityOf 2 (some .int) (wsM yX0_severityOf cX0_severityOf 2 (some .int)) (rmH 1) 0 0 1 := k_V hB q_608 q_61 q_605 q_606 q_607 (by decide +kernel) hR
theorem kc_X3_130 (hB : ∀ w ∈ BG, w.before args s = true) (hR : (rmH 3).frames + 1 ≤ R.frames ∧ 8 + (4 + 11) + (rmH 3).locals ≤ R.locals) : CallW R s args RX3 RX1 130 yX1_covers cX1_covers 4 (some .boolean) (wsM yX1_covers cX1_covers 4 (some .boolean)) (rmH 3) 0 0 3 := k_V hB q_638 q_60 q_635 q_636 q_637 (by decide +kernel) hR
theorem kc_X3_134 (hB : ∀ w ∈ BG, w.before args s = true) (hR : (rmH 4).frames + 1 ≤ R.frames ∧ 8 + (4 + 11) + (rmH 4).locals ≤ R.locals) : CallW R s args RX3 RX3 134 yX3_bindingFor cX3_bindingFor 4 (some .int) (wsM yX3_bindingFor cX3_bindingFor 4 (some .int)) (rmH 4) 0 0 1 := k_V hB q_645 q_59 q_642 q_643 q_644 (by decide +kernel) hR
theorem kc_X3_137 (hB : ∀ w ∈ BG, w.before args s = true) (hR : (rmH 2).frames + 1 ≤ R.frames ∧ 8 + (3 + 11) + (rmH 2).locals ≤ R.locals) : CallW R s args RX3 RX1 137 yX1_costOf cX1_costOf 3 (some .int) (wsM yX1_costOf cX1_costOf 3 (some .int)) (rmH 2) 0 0 2 := k_V hB q_295 q_60 q_292 q_293 q_294 (by decide +kernel) hR
theorem kc_X3_140 (hB : ∀ w ∈ BG, w.before args s = true) (hR : (rmH 1).frames + 1 ≤ R.frames ∧ 8 + (2 + 11) + (rmH 1).locals ≤ R.locals) : CallW R s args RX3 RX3 140 yX3_leftOf cX3_leftOf 2 (some .int) (wsM yX3_leftOf cX3_leftOf 2 (some .int)) (rmH 1) 0 0 1 := k_V hB q_336 q_59 q_333 q_334 q_335 (by decide +kernel) hR
theorem kc_X3_143 (hB : ∀ w ∈ BG, w.before args s = true) (hR : (rmH 3).frames + 1 ≤ R.frames ∧ 8 + (5 + 11) + (rmH 3).locals ≤ R.locals) : CallW R s args RX3 RX3 143 yX3_hand cX3_hand 5 none (wsM yX3_hand cX3_hand 5 none) (rmH 3) 0 0 2 := k_V hB q_352 q_59 q_349 q_351 q_2 (by decide +kernel) hR
theorem kc_X3_147 (hB : ∀ w ∈ BG, w.before args s = true) (hR : (rmH 1).frames + 1 ≤ R.frames ∧ 8 + (7 + 11) + (rmH 1).locals ≤ R.locals) : CallW R s args RX3 RX2 147 yX2_add cX2_add 7 (some .int) (wsM yX2_add cX2_add 7 (some .int)) (rmH 1) 0 0 5 := k_V hB q_809 q_62 q_806 q_807 q_808 (by decide +kernel) hR
theorem kc_X3_151 (hB : ∀ w ∈ BG, w.before args s = true) (hR : (rmH 1).frames + 1 ≤ R.frames ∧ 8 + (5 + 11) + (rmH 1).locals ≤ R.locals) : CallW R s args RX3 RX0 151 yX0_noteDecision cX0_noteDecision 5 none (wsM yX0_noteDecision cX0_noteDecision 5 none) (rmH 1) 0 0 4 := k_V hB q_813 q_61 q_810 q_811 q_812 (by decide +kernel) hR
theorem kc_X3_155 (hB : ∀ w ∈ BG, w.before args s = true) (hR : (rmH 1).frames + 1 ≤ R.frames ∧ 8 + (2 + 11) + (rmH 1).locals ≤ R.locals) : CallW R s args RX3 RX0 155 yX0_gotOf cX0_gotOf 2 (some .int) (wsM yX0_gotOf cX0_gotOf 2 (some .int)) (rmH 1) 0 0 1 := k_V hB q_306 q_61 q_303 q_304 q_305 (by decide +kernel) hR
theorem kc_X3_158 (hB : ∀ w ∈ BG, w.before args s = true) (hR : (rmH 1).frames + 1 ≤ R.frames ∧ 8 + (4 + 11) + (rmH 1).locals ≤ R.locals) : CallW R s args RX3 RX0 158 yX0_give cX0_give 4 none (wsM yX0_give cX0_give 4 none) (rmH 1) 0 0 3 := k_V hB q_356 q_61 q_353 q_354 q_355 (by decide +kernel) hR
theorem kc_X3_162 (hB : ∀ w ∈ BG, w.before args s = true) (hR : (rmH 1).frames + 1 ≤ R.frames ∧ 8 + (2 + 11) + (rmH 1).locals ≤ R.locals) : CallW R s args RX3 RX0 162 yX0_monthOf cX0_monthOf 2 (some .int) (wsM yX0_monthOf cX0_monthOf 2 (some .int)) (rmH 1) 0 0 1 := k_V hB q_625 q_61 q_622 q_623 q_624 (by decide +kernel) hR
theorem kc_X3_163 (hB : ∀ w ∈ BG, w.before args s = true) (hR : (rmH 1).frames + 1 ≤ R.frames ∧ 8 + (3 + 11) + (rmH 1).locals ≤ R.locals) : CallW R s args RX3 RX0 163 yX0_changeStage cX0_changeStage 3 none (wsM yX0_changeStage cX0_changeStage 3 none) (rmH 1) 0 0 2 := k_V hB q_667 q_61 q_664 q_665 q_666 (by decide +kernel) hR
theorem kc_X3_166 (hB : ∀ w ∈ BG, w.before args s = true) (hR : (rmH 1).frames + 1 ≤ R.frames ∧ 8 + (3 + 11) + (rmH 1).locals ≤ R.locals) : CallW R s args RX3 RX2 166 yX2_raise cX2_raise 3 none (wsM yX2_raise cX2_raise 3 none) (rmH 1) 0 0 2 := k_V hB q_671 q_62 q_668 q_669 q_670 (by decide +kernel) hR
theorem kc_X3_169 (hB : ∀ w ∈ BG, w.before args s = true) (hR : (rmH 4).frames + 1 ≤ R.frames ∧ 8 + (3 + 11) + (rmH 4).locals ≤ R.locals) : CallW R s args RX3 RX3 169 yX3_topUp cX3_topUp 3 (some .int) (wsM yX3_topUp cX3_topUp 3 (some .int)) (rmH 4) 0 0 1 := k_V hB q_348 q_59 q_345 q_347 q_1 (by decide +kernel) hR
theorem kc_X3_177 (hB : ∀ w ∈ BG, w.before args s = true) (hR : (rmH 3).frames + 1 ≤ R.frames ∧ 8 + (4 + 11) + (rmH 3).locals ≤ R.locals) : CallW R s args RX3 RX3 177 yX3_owedTo cX3_owedTo 4 (some .int) (wsM yX3_owedTo cX3_owedTo 4 (some .int)) (rmH 3) 0 0 1 := k_V hB q_270 q_59 q_267 q_268 q_269 (by decide +kernel) hR
theorem kc_X3_180 (hB : ∀ w ∈ BG, w.before args s = true) (hR : (rmH 4).frames + 1 ≤ R.frames ∧ 8 + (4 + 11) + (rmH 4).locals ≤ R.locals) : CallW R s args RX3 RX3 180 yX3_owedInKind cX3_owedInKind 4 (some .int) (wsM yX3_owedInKind cX3_owedInKind 4 (some .int)) (rmH 4) 0 0 1 := k_V hB q_535 q_59 q_676 q_533 q_534 (by decide +kernel) hR
theorem kc_X3_183 (hB : ∀ w ∈ BG, w.before args s = true) (hR : (rmH 1).frames + 1 ≤ R.frames ∧ 8 + (2 + 11) + (rmH 1).locals ≤ R.locals) : CallW R s args RX3 RX0 183 yX0_customerOf cX0_customerOf 2 (some .int) (wsM yX0_customerOf cX0_customerOf 2 (some .int)) (rmH 1) 0 0 1 := k_V hB q_612 q_61 q_609 q_610 q_611 (by decide +kernel) hR
theorem kc_X3_186 (hB : ∀ w ∈ BG, w.before args s = true) (hR : (rmH 1).frames + 1 ≤ R.frames ∧ 8 + (2 + 11) + (rmH 1).locals ≤ R.locals) : CallW R s args RX3 RX0 186 yX0_amendsOf cX0_amendsOf 2 (some .int) (wsM yX0_amendsOf cX0_amendsOf 2 (some .int)) (rmH 1) 0 0 1 := k_V hB q_561 q_61 q_617 q_559 q_560 (by decide +kernel) hR
theorem kc_X3_187 (hB : ∀ w ∈ BG, w.before args s = true) (hR : (rmH 1).frames + 1 ≤ R.frames ∧ 8 + (2 + 11) + (rmH 1).locals ≤ R.locals) : CallW R s args RX3 RX0 187 yX0_reasonOf cX0_reasonOf 2 (some .int) (wsM yX0_reasonOf cX0_reasonOf 2 (some .int)) (rmH 1) 0 0 1 := k_V hB q_621 q_61 q_618 q_619 q_620 (by decide +kernel) hR
theorem kc_X4_27 (hB : ∀ w ∈ BG, w.before args s = true) (hR : (rmH 0).frames + 1 ≤ R.frames ∧ 8 + (1 + 11) + (rmH 0).locals ≤ R.locals) : CallB R s args RX4 27 yX4_isKind cX4_isKind 1 (some .boolean) (wsM yX4_isKind cX4_isKind 1 (some .boolean)) (rmH 0) 0 0 1 ∧ (Cond.static yX4_isKind).before args s = true := k_S hB q_302 q_58 q_509 q_301 (by decide +kernel) hR
theorem kc_X4_31 (hB : ∀ w ∈ BG, w.before args s = true) (hR : (rmH 1).frames + 1 ≤ R.frames ∧ 8 + (1 + 11) + (rmH 1).locals ≤ R.locals) : CallB R s args RX4 31 yX4_requireIndex cX4_requireIndex 1 none (wsM yX4_requireIndex cX4_requireIndex 1 none) (rmH 1) 0 0 1 ∧ (Cond.static yX4_requireIndex).before args s = true := k_S hB q_484 q_58 q_482 q_483 (by decide +kernel) hR
theorem kc_X4_35 (hB : ∀ w ∈ BG, w.before args s = true) (hR : (rmH 0).frames + 1 ≤ R.frames ∧ 8 + (3 + 11) + (rmH 0).locals ≤ R.locals) : CallB R s args RX4 35 yX4_isWithin cX4_isWithin 3 (some .boolean) (wsM yX4_isWithin cX4_isWithin 3 (some .boolean)) (rmH 0) 0 0 3 ∧ (Cond.static yX4_isWithin).before args s = true := k_S hB q_255 q_58 q_253 q_254 (by decide +kernel) hR
theorem kc_X4_39 (hB : ∀ w ∈ BG, w.before args s = true) (hR : (rmH 1).frames + 1 ≤ R.frames ∧ 8 + (1 + 11) + (rmH 1).locals ≤ R.locals) : CallB R s args RX4 39 yX4_requireArgument cX4_requireArgument 1 none (wsM yX4_requireArgument cX4_requireArgument 1 none) (rmH 1) 0 0 1 ∧ (Cond.static yX4_requireArgument).before args s = true := k_S hB q_394 q_58 q_392 q_393 (by decide +kernel) hR
theorem kc_X4_46 (hB : ∀ w ∈ BG, w.before args s = true) (hR : (rmH 1).frames + 1 ≤ R.frames ∧ 8 + (2 + 11) + (rmH 1).locals ≤ R.locals) : CallW R s args RX4 RX1 46 yX1_sizeOf cX1_sizeOf 2 (some .int) (wsM yX1_sizeOf cX1_sizeOf 2 (some .int)) (rmH 1) 0 0 1 := k_V hB q_526 q_60 q_523 q_524 q_525 (by decide +kernel) hR
theorem kc_X4_52 (hB : ∀ w ∈ BG, w.before args s = true) (hR : (rmH 1).frames + 1 ≤ R.frames ∧ 8 + (1 + 11) + (rmH 1).locals ≤ R.locals) : CallB R s args RX4 52 yX4_requireState cX4_requireState 1 none (wsM yX4_requireState cX4_requireState 1 none) (rmH 1) 0 0 1 ∧ (Cond.static yX4_requireState).before args s = true := k_S hB q_713 q_58 q_711 q_712 (by decide +kernel) hR
theorem kc_X4_55 (hB : ∀ w ∈ BG, w.before args s = true) (hR : (rmH 5).frames + 1 ≤ R.frames ∧ 8 + (2 + 11) + (rmH 5).locals ≤ R.locals) : CallW R s args RX4 RX4 55 yX4_save cX4_save 2 none (wsM yX4_save cX4_save 2 none) (rmH 5) 0 0 0 := k_V hB q_732 q_58 q_729 q_731 q_8 (by decide +kernel) hR
theorem kc_X4_58 (hB : ∀ w ∈ BG, w.before args s = true) (hR : (rmH 1).frames + 1 ≤ R.frames ∧ 8 + (7 + 11) + (rmH 1).locals ≤ R.locals) : CallW R s args RX4 RX1 58 yX1_add cX1_add 7 (some .int) (wsM yX1_add cX1_add 7 (some .int)) (rmH 1) 0 0 4 := k_V hB q_740 q_60 q_737 q_738 q_739 (by decide +kernel) hR
theorem kc_X4_62 (hB : ∀ w ∈ BG, w.before args s = true) (hR : (rmH 1).frames + 1 ≤ R.frames ∧ 8 + (3 + 11) + (rmH 1).locals ≤ R.locals) : CallW R s args RX4 RX1 62 yX1_has cX1_has 3 (some .boolean) (wsM yX1_has cX1_has 3 (some .boolean)) (rmH 1) 0 0 2 := k_V hB q_299 q_60 q_540 q_297 q_298 (by decide +kernel) hR
theorem kc_X4_66 (hB : ∀ w ∈ BG, w.before args s = true) (hR : (rmH 2).frames + 1 ≤ R.frames ∧ 8 + (3 + 11) + (rmH 2).locals ≤ R.locals) : CallW R s args RX4 RX1 66 yX1_isOffered cX1_isOffered 3 (some .boolean) (wsM yX1_isOffered cX1_isOffered 3 (some .boolean)) (rmH 2) 0 0 2 := k_V hB q_553 q_60 q_550 q_551 q_552 (by decide +kernel) hR
theorem kc_X4_69 (hB : ∀ w ∈ BG, w.before args s = true) (hR : (rmH 3).frames + 1 ≤ R.frames ∧ 8 + (5 + 11) + (rmH 3).locals ≤ R.locals) : CallW R s args RX4 RX1 69 yX1_remove cX1_remove 5 (some .int) (wsM yX1_remove cX1_remove 5 (some .int)) (rmH 3) 0 0 2 := k_V hB q_751 q_60 q_748 q_749 q_750 (by decide +kernel) hR
theorem kc_X4_73 (hB : ∀ w ∈ BG, w.before args s = true) (hR : (rmH 2).frames + 1 ≤ R.frames ∧ 8 + (4 + 11) + (rmH 2).locals ≤ R.locals) : CallW R s args RX4 RX3 73 yX3_changeBase cX3_changeBase 4 (some .int) (wsM yX3_changeBase cX3_changeBase 4 (some .int)) (rmH 2) 0 0 2 := k_V hB q_764 q_59 q_761 q_762 q_763 (by decide +kernel) hR
theorem kc_X4_76 (hB : ∀ w ∈ BG, w.before args s = true) (hR : (rmH 0).frames + 1 ≤ R.frames ∧ 8 + (1 + 11) + (rmH 0).locals ≤ R.locals) : CallB R s args RX4 76 yX4_isSetting cX4_isSetting 1 (some .boolean) (wsM yX4_isSetting cX4_isSetting 1 (some .boolean)) (rmH 0) 0 0 1 ∧ (Cond.static yX4_isSetting).before args s = true := k_S hB q_344 q_58 q_481 q_343 (by decide +kernel) hR
theorem kc_X4_79 (hB : ∀ w ∈ BG, w.before args s = true) (hR : (rmH 1).frames + 1 ≤ R.frames ∧ 8 + (2 + 11) + (rmH 1).locals ≤ R.locals) : CallB R s args RX4 79 yX4_isValueOf cX4_isValueOf 2 (some .boolean) (wsM yX4_isValueOf cX4_isValueOf 2 (some .boolean)) (rmH 1) 0 0 2 ∧ (Cond.static yX4_isValueOf).before args s = true := k_S hB q_775 q_58 q_773 q_774 (by decide +kernel) hR
theorem kc_X4_82 (hB : ∀ w ∈ BG, w.before args s = true) (hR : (rmH 2).frames + 1 ≤ R.frames ∧ 8 + (4 + 11) + (rmH 2).locals ≤ R.locals) : CallW R s args RX4 RX3 82 yX3_changeSetting cX3_changeSetting 4 (some .int) (wsM yX3_changeSetting cX3_changeSetting 4 (some .int)) (rmH 2) 0 0 2 := k_V hB q_783 q_59 q_780 q_781 q_782 (by decide +kernel) hR
theorem kc_X4_85 (hB : ∀ w ∈ BG, w.before args s = true) (hR : (rmH 0).frames + 1 ≤ R.frames ∧ 8 + (1 + 11) + (rmH 0).locals ≤ R.locals) : CallB R s args RX4 85 yX4_isCustomer cX4_isCustomer 1 (some .boolean) (wsM yX4_isCustomer cX4_isCustomer 1 (some .boolean)) (rmH 0) 0 0 1 ∧ (Cond.static yX4_isCustomer).before args s = true := k_S hB q_683 q_58 q_681 q_682 (by decide +kernel) hR
theorem kc_X4_98 (hB : ∀ w ∈ BG, w.before args s = true) (hR : (rmH 0).frames + 1 ≤ R.frames ∧ 8 + (5 + 11) + (rmH 0).locals ≤ R.locals) : CallW R s args RX4 RX0 98 yX0_add cX0_add 5 (some .int) (wsM yX0_add cX0_add 5 (some .int)) (rmH 0) 0 0 3 := k_V hB q_794 q_61 q_791 q_792 q_793 (by decide +kernel) hR
theorem kc_X4_101 (hB : ∀ w ∈ BG, w.before args s = true) (hR : (rmH 0).frames + 1 ≤ R.frames ∧ 8 + (2 + 11) + (rmH 0).locals ≤ R.locals) : CallW R s args RX4 RX0 101 yX0_has cX0_has 2 (some .boolean) (wsM yX0_has cX0_has 2 (some .boolean)) (rmH 0) 0 0 1 := k_V hB q_278 q_61 q_600 q_276 q_277 (by decide +kernel) hR
theorem kc_X4_103 (hB : ∀ w ∈ BG, w.before args s = true) (hR : (rmH 5).frames + 1 ≤ R.frames ∧ 8 + (6 + 11) + (rmH 5).locals ≤ R.locals) : CallW R s args RX4 RX3 103 yX3_againstDecision cX3_againstDecision 6 (some .int) (wsM yX3_againstDecision cX3_againstDecision 6 (some .int)) (rmH 5) 0 0 3 := k_V hB q_634 q_59 q_631 q_632 q_633 (by decide +kernel) hR
theorem kc_X4_106 (hB : ∀ w ∈ BG, w.before args s = true) (hR : (rmH 5).frames + 1 ≤ R.frames ∧ 8 + (7 + 11) + (rmH 5).locals ≤ R.locals) : CallW R s args RX4 RX3 106 yX3_makeDecision cX3_makeDecision 7 (some .int) (wsM yX3_makeDecision cX3_makeDecision 7 (some .int)) (rmH 5) 0 0 3 := k_V hB q_805 q_59 q_802 q_803 q_804 (by decide +kernel) hR
theorem kc_X4_109 (hB : ∀ w ∈ BG, w.before args s = true) (hR : (rmH 2).frames + 1 ≤ R.frames ∧ 8 + (2 + 11) + (rmH 2).locals ≤ R.locals) : CallW R s args RX4 RX3 109 yX3_canBeAppealed cX3_canBeAppealed 2 (some .boolean) (wsM yX3_canBeAppealed cX3_canBeAppealed 2 (some .boolean)) (rmH 2) 0 0 1 := k_V hB q_824 q_59 q_821 q_822 q_823 (by decide +kernel) hR
theorem kc_X4_112 (hB : ∀ w ∈ BG, w.before args s = true) (hR : (rmH 1).frames + 1 ≤ R.frames ∧ 8 + (3 + 11) + (rmH 1).locals ≤ R.locals) : CallW R s args RX4 RX0 112 yX0_changeStage cX0_changeStage 3 none (wsM yX0_changeStage cX0_changeStage 3 none) (rmH 1) 0 0 2 := k_V hB q_667 q_61 q_825 q_665 q_666 (by decide +kernel) hR
theorem kc_X4_116 (hB : ∀ w ∈ BG, w.before args s = true) (hR : (rmH 2).frames + 1 ≤ R.frames ∧ 8 + (4 + 11) + (rmH 2).locals ≤ R.locals) : CallW R s args RX4 RX0 116 yX0_inStage cX0_inStage 4 (some .int) (wsM yX0_inStage cX0_inStage 4 (some .int)) (rmH 2) 0 0 1 := k_V hB q_364 q_61 q_361 q_362 q_363 (by decide +kernel) hR
theorem kc_X4_119 (hB : ∀ w ∈ BG, w.before args s = true) (hR : (rmH 4).frames + 1 ≤ R.frames ∧ 8 + (5 + 11) + (rmH 4).locals ≤ R.locals) : CallW R s args RX4 RX3 119 yX3_againstJudgement cX3_againstJudgement 5 (some .int) (wsM yX3_againstJudgement cX3_againstJudgement 5 (some .int)) (rmH 4) 0 0 2 := k_V hB q_655 q_59 q_652 q_653 q_654 (by decide +kernel) hR
theorem kc_X4_122 (hB : ∀ w ∈ BG, w.before args s = true) (hR : (rmH 5).frames + 1 ≤ R.frames ∧ 8 + (8 + 11) + (rmH 5).locals ≤ R.locals) : CallW R s args RX4 RX3 122 yX3_makeJudgement cX3_makeJudgement 8 (some .int) (wsM yX3_makeJudgement cX3_makeJudgement 8 (some .int)) (rmH 5) 0 0 2 := k_V hB q_663 q_59 q_660 q_661 q_662 (by decide +kernel) hR
theorem kc_X4_128 (hB : ∀ w ∈ BG, w.before args s = true) (hR : (rmH 5).frames + 1 ≤ R.frames ∧ 8 + (3 + 11) + (rmH 5).locals ≤ R.locals) : CallW R s args RX4 RX3 128 yX3_turnMonth cX3_turnMonth 3 (some .int) (wsM yX3_turnMonth cX3_turnMonth 3 (some .int)) (rmH 5) 0 0 0 := k_V hB q_332 q_59 q_329 q_330 q_331 (by decide +kernel) hR
theorem kc_X4_135 (hB : ∀ w ∈ BG, w.before args s = true) (hR : (rmH 1).frames + 1 ≤ R.frames ∧ 8 + (2 + 11) + (rmH 1).locals ≤ R.locals) : CallW R s args RX4 RX4 135 yX4_codeAt cX4_codeAt 2 (some .int) (wsM yX4_codeAt cX4_codeAt 2 (some .int)) (rmH 1) 0 0 1 := k_V hB q_252 q_58 q_249 q_251 q_0 (by decide +kernel) hR
theorem kc_X4_138 (hB : ∀ w ∈ BG, w.before args s = true) (hR : (rmH 1).frames + 1 ≤ R.frames ∧ 8 + (2 + 11) + (rmH 1).locals ≤ R.locals) : CallB R s args RX4 138 yX4_fitsPlace cX4_fitsPlace 2 (some .boolean) (wsM yX4_fitsPlace cX4_fitsPlace 2 (some .boolean)) (rmH 1) 0 0 2 ∧ (Cond.static yX4_fitsPlace).before args s = true := k_S hB q_258 q_58 q_256 q_257 (by decide +kernel) hR
theorem kc_X4_141 (hB : ∀ w ∈ BG, w.before args s = true) (hR : (rmH 2).frames + 1 ≤ R.frames ∧ 8 + (2 + 11) + (rmH 2).locals ≤ R.locals) : CallW R s args RX4 RX4 141 yX4_firstError cX4_firstError 2 (some .int) (wsM yX4_firstError cX4_firstError 2 (some .int)) (rmH 2) 0 0 0 := k_V hB q_248 q_58 q_854 q_246 q_247 (by decide +kernel) hR
theorem kc_X4_144 (hB : ∀ w ∈ BG, w.before args s = true) (hR : (rmH 2).frames + 1 ≤ R.frames ∧ 8 + (2 + 11) + (rmH 2).locals ≤ R.locals) : CallW R s args RX4 RX4 144 yX4_digitAt cX4_digitAt 2 (some .int) (wsM yX4_digitAt cX4_digitAt 2 (some .int)) (rmH 2) 0 0 1 := k_V hB q_858 q_58 q_855 q_857 q_10 (by decide +kernel) hR
theorem kc_X4_153 (hB : ∀ w ∈ BG, w.before args s = true) (hR : (rmH 1).frames + 1 ≤ R.frames ∧ 8 + (2 + 11) + (rmH 1).locals ≤ R.locals) : CallW R s args RX4 RX4 153 yX4_savedAt cX4_savedAt 2 (some (.object "AmendsLedger$State")) (wsM yX4_savedAt cX4_savedAt 2 (some (.object "AmendsLedger$State"))) (rmH 1) 0 0 1 := k_V hB q_736 q_58 q_733 q_735 q_9 (by decide +kernel) hR
theorem kc_X4_157 (hB : ∀ w ∈ BG, w.before args s = true) (hR : (rmH 4).frames + 1 ≤ R.frames ∧ 8 + (2 + 11) + (rmH 4).locals ≤ R.locals) : CallW R s args RX4 RX3 157 yX3_copyFrom cX3_copyFrom 2 none (wsM yX3_copyFrom cX3_copyFrom 2 none) (rmH 4) 0 0 1 := k_V hB q_313 q_59 q_310 q_311 q_312 (by decide +kernel) hR
theorem kc_X4_161 (hB : ∀ w ∈ BG, w.before args s = true) (hR : (rmH 4).frames + 1 ≤ R.frames ∧ 8 + (3 + 11) + (rmH 4).locals ≤ R.locals) : CallW R s args RX4 RX3 161 yX3_ofComplaint cX3_ofComplaint 3 (some .int) (wsM yX3_ofComplaint cX3_ofComplaint 3 (some .int)) (rmH 4) 0 0 2 := k_V hB q_604 q_59 q_601 q_602 q_603 (by decide +kernel) hR
theorem kc_X4_164 (hB : ∀ w ∈ BG, w.before args s = true) (hR : (rmH 2).frames + 1 ≤ R.frames ∧ 8 + (3 + 11) + (rmH 2).locals ≤ R.locals) : CallW R s args RX4 RX1 164 yX1_costOf cX1_costOf 3 (some .int) (wsM yX1_costOf cX1_costOf 3 (some .int)) (rmH 2) 0 0 2 := k_V hB q_295 q_60 q_541 q_293 q_294 (by decide +kernel) hR
theorem kc_X4_167 (hB : ∀ w ∈ BG, w.before args s = true) (hR : (rmH 2).frames + 1 ≤ R.frames ∧ 8 + (3 + 11) + (rmH 2).locals ≤ R.locals) : CallW R s args RX4 RX1 167 yX1_leastOf cX1_leastOf 3 (some .int) (wsM yX1_leastOf cX1_leastOf 3 (some .int)) (rmH 2) 0 0 2 := k_V hB q_545 q_60 q_542 q_543 q_544 (by decide +kernel) hR
theorem kc_X4_170 (hB : ∀ w ∈ BG, w.before args s = true) (hR : (rmH 2).frames + 1 ≤ R.frames ∧ 8 + (3 + 11) + (rmH 2).locals ≤ R.locals) : CallW R s args RX4 RX1 170 yX1_mostOf cX1_mostOf 3 (some .int) (wsM yX1_mostOf cX1_mostOf 3 (some .int)) (rmH 2) 0 0 2 := k_V hB q_549 q_60 q_546 q_547 q_548 (by decide +kernel) hR
theorem kc_X4_173 (hB : ∀ w ∈ BG, w.before args s = true) (hR : (rmH 2).frames + 1 ≤ R.frames ∧ 8 + (5 + 11) + (rmH 2).locals ≤ R.locals) : CallW R s args RX4 RX0 173 yX0_having cX0_having 5 (some .int) (wsM yX0_having cX0_having 5 (some .int)) (rmH 2) 0 0 2 := k_V hB q_557 q_61 q_554 q_555 q_556 (by decide +kernel) hR
theorem kc_X4_176 (hB : ∀ w ∈ BG, w.before args s = true) (hR : (rmH 0).frames + 1 ≤ R.frames ∧ 8 + (1 + 11) + (rmH 0).locals ≤ R.locals) : CallB R s args RX4 176 yX4_isGroup cX4_isGroup 1 (some .boolean) (wsM yX4_isGroup cX4_isGroup 1 (some .boolean)) (rmH 0) 0 0 1 ∧ (Cond.static yX4_isGroup).before args s = true := k_S hB q_568 q_58 q_566 q_567 (by decide +kernel) hR
theorem kc_X4_183 (hB : ∀ w ∈ BG, w.before args s = true) (hR : (rmH 1).frames + 1 ≤ R.frames ∧ 8 + (3 + 11) + (rmH 1).locals ≤ R.locals) : CallW R s args RX4 RX2 183 yX2_latestOf cX2_latestOf 3 (some .int) (wsM yX2_latestOf cX2_latestOf 3 (some .int)) (rmH 1) 0 0 2 := k_V hB q_572 q_62 q_569 q_570 q_571 (by decide +kernel) hR
theorem kc_X4_188 (hB : ∀ w ∈ BG, w.before args s = true) (hR : (rmH 0).frames + 1 ≤ R.frames ∧ 8 + (2 + 11) + (rmH 0).locals ≤ R.locals) : CallW R s args RX4 RX2 188 yX2_has cX2_has 2 (some .boolean) (wsM yX2_has cX2_has 2 (some .boolean)) (rmH 0) 0 0 1 := k_V hB q_282 q_62 q_575 q_280 q_281 (by decide +kernel) hR
theorem kc_X4_189 (hB : ∀ w ∈ BG, w.before args s = true) (hR : (rmH 1).frames + 1 ≤ R.frames ∧ 8 + (2 + 11) + (rmH 1).locals ≤ R.locals) : CallW R s args RX4 RX2 189 yX2_amendsOf cX2_amendsOf 2 (some .int) (wsM yX2_amendsOf cX2_amendsOf 2 (some .int)) (rmH 1) 0 0 1 := k_V hB q_290 q_62 q_576 q_288 q_289 (by decide +kernel) hR
theorem kc_X4_192 (hB : ∀ w ∈ BG, w.before args s = true) (hR : (rmH 1).frames + 1 ≤ R.frames ∧ 8 + (2 + 11) + (rmH 1).locals ≤ R.locals) : CallW R s args RX4 RX2 192 yX2_monthOf cX2_monthOf 2 (some .int) (wsM yX2_monthOf cX2_monthOf 2 (some .int)) (rmH 1) 0 0 1 := k_V hB q_580 q_62 q_577 q_578 q_579 (by decide +kernel) hR
theorem kc_X4_195 (hB : ∀ w ∈ BG, w.before args s = true) (hR : (rmH 1).frames + 1 ≤ R.frames ∧ 8 + (2 + 11) + (rmH 1).locals ≤ R.locals) : CallW R s args RX4 RX2 195 yX2_setterOf cX2_setterOf 2 (some .int) (wsM yX2_setterOf cX2_setterOf 2 (some .int)) (rmH 1) 0 0 1 := k_V hB q_381 q_62 q_581 q_379 q_380 (by decide +kernel) hR
theorem kc_X4_198 (hB : ∀ w ∈ BG, w.before args s = true) (hR : (rmH 3).frames + 1 ≤ R.frames ∧ 8 + (3 + 11) + (rmH 3).locals ≤ R.locals) : CallW R s args RX4 RX3 198 yX3_isBinding cX3_isBinding 3 (some .boolean) (wsM yX3_isBinding cX3_isBinding 3 (some .boolean)) (rmH 3) 0 0 2 := k_V hB q_585 q_59 q_582 q_583 q_584 (by decide +kernel) hR
theorem kc_X4_201 (hB : ∀ w ∈ BG, w.before args s = true) (hR : (rmH 2).frames + 1 ≤ R.frames ∧ 8 + (4 + 11) + (rmH 2).locals ≤ R.locals) : CallW R s args RX4 RX0 201 yX0_following cX0_following 4 (some .int) (wsM yX0_following cX0_following 4 (some .int)) (rmH 2) 0 0 1 := k_V hB q_591 q_61 q_588 q_589 q_590 (by decide +kernel) hR
theorem kc_X4_204 (hB : ∀ w ∈ BG, w.before args s = true) (hR : (rmH 1).frames + 1 ≤ R.frames ∧ 8 + (2 + 11) + (rmH 1).locals ≤ R.locals) : CallW R s args RX4 RX3 204 yX3_baseOf cX3_baseOf 2 (some .int) (wsM yX3_baseOf cX3_baseOf 2 (some .int)) (rmH 1) 0 0 1 := k_V hB q_513 q_59 q_510 q_511 q_512 (by decide +kernel) hR
theorem kc_X4_207 (hB : ∀ w ∈ BG, w.before args s = true) (hR : (rmH 1).frames + 1 ≤ R.frames ∧ 8 + (2 + 11) + (rmH 1).locals ≤ R.locals) : CallW R s args RX4 RX3 207 yX3_budgetOf cX3_budgetOf 2 (some .int) (wsM yX3_budgetOf cX3_budgetOf 2 (some .int)) (rmH 1) 0 0 1 := k_V hB q_517 q_59 q_514 q_515 q_516 (by decide +kernel) hR
theorem kc_X4_210 (hB : ∀ w ∈ BG, w.before args s = true) (hR : (rmH 1).frames + 1 ≤ R.frames ∧ 8 + (2 + 11) + (rmH 1).locals ≤ R.locals) : CallW R s args RX4 RX3 210 yX3_spentOf cX3_spentOf 2 (some .int) (wsM yX3_spentOf cX3_spentOf 2 (some .int)) (rmH 1) 0 0 1 := k_V hB q_521 q_59 q_518 q_519 q_520 (by decide +kernel) hR
theorem kc_X4_213 (hB : ∀ w ∈ BG, w.before args s = true) (hR : (rmH 1).frames + 1 ≤ R.frames ∧ 8 + (2 + 11) + (rmH 1).locals ≤ R.locals) : CallW R s args RX4 RX3 213 yX3_leftOf cX3_leftOf 2 (some .int) (wsM yX3_leftOf cX3_leftOf 2 (some .int)) (rmH 1) 0 0 1 := k_V hB q_336 q_59 q_522 q_334 q_335 (by decide +kernel) hR
theorem kc_X4_216 (hB : ∀ w ∈ BG, w.before args s = true) (hR : (rmH 2).frames + 1 ≤ R.frames ∧ 8 + (4 + 11) + (rmH 2).locals ≤ R.locals) : CallW R s args RX4 RX0 216 yX0_ofKind cX0_ofKind 4 (some .int) (wsM yX0_ofKind cX0_ofKind 4 (some .int)) (rmH 2) 0 0 1 := k_V hB q_530 q_61 q_527 q_528 q_529 (by decide +kernel) hR
theorem kc_X4_219 (hB : ∀ w ∈ BG, w.before args s = true) (hR : (rmH 2).frames + 1 ≤ R.frames ∧ 8 + (4 + 11) + (rmH 2).locals ≤ R.locals) : CallW R s args RX4 RX0 219 yX0_gotInKind cX0_gotInKind 4 (some .int) (wsM yX0_gotInKind cX0_gotInKind 4 (some .int)) (rmH 2) 0 0 1 := k_V hB q_465 q_61 q_531 q_463 q_464 (by decide +kernel) hR
theorem kc_X4_222 (hB : ∀ w ∈ BG, w.before args s = true) (hR : (rmH 4).frames + 1 ≤ R.frames ∧ 8 + (4 + 11) + (rmH 4).locals ≤ R.locals) : CallW R s args RX4 RX3 222 yX3_owedInKind cX3_owedInKind 4 (some .int) (wsM yX3_owedInKind cX3_owedInKind 4 (some .int)) (rmH 4) 0 0 1 := k_V hB q_535 q_59 q_532 q_533 q_534 (by decide +kernel) hR
theorem kc_X4_225 (hB : ∀ w ∈ BG, w.before args s = true) (hR : (rmH 3).frames + 1 ≤ R.frames ∧ 8 + (3 + 11) + (rmH 3).locals ≤ R.locals) : CallW R s args RX4 RX0 225 yX0_gotInAll cX0_gotInAll 3 (some .int) (wsM yX0_gotInAll cX0_gotInAll 3 (some .int)) (rmH 3) 0 0 0 := k_V hB q_461 q_61 q_458 q_459 q_460 (by decide +kernel) hR
theorem kc_X4_228 (hB : ∀ w ∈ BG, w.before args s = true) (hR : (rmH 4).frames + 1 ≤ R.frames ∧ 8 + (3 + 11) + (rmH 4).locals ≤ R.locals) : CallW R s args RX4 RX3 228 yX3_waiting cX3_waiting 3 (some .int) (wsM yX3_waiting cX3_waiting 3 (some .int)) (rmH 4) 0 0 0 := k_V hB q_266 q_59 q_263 q_264 q_265 (by decide +kernel) hR
theorem kc_X4_231 (hB : ∀ w ∈ BG, w.before args s = true) (hR : (rmH 3).frames + 1 ≤ R.frames ∧ 8 + (3 + 11) + (rmH 3).locals ≤ R.locals) : CallW R s args RX4 RX3 231 yX3_departing cX3_departing 3 (some .int) (wsM yX3_departing cX3_departing 3 (some .int)) (rmH 3) 0 0 0 := k_V hB q_372 q_59 q_369 q_370 q_371 (by decide +kernel) hR
theorem kc_X4_235 (hB : ∀ w ∈ BG, w.before args s = true) (hR : (rmH 3).frames + 1 ≤ R.frames ∧ 8 + (4 + 11) + (rmH 3).locals ≤ R.locals) : CallW R s args RX4 RX0 235 yX0_unequalPairs cX0_unequalPairs 4 (some .int) (wsM yX0_unequalPairs cX0_unequalPairs 4 (some .int)) (rmH 3) 0 0 0 := k_V hB q_471 q_61 q_468 q_469 q_470 (by decide +kernel) hR
theorem kc_X4_238 (hB : ∀ w ∈ BG, w.before args s = true) (hR : (rmH 1).frames + 1 ≤ R.frames ∧ 8 + (2 + 11) + (rmH 1).locals ≤ R.locals) : CallW R s args RX4 RX3 238 yX3_settingOf cX3_settingOf 2 (some .int) (wsM yX3_settingOf cX3_settingOf 2 (some .int)) (rmH 1) 0 0 1 := k_V hB q_341 q_59 q_500 q_339 q_340 (by decide +kernel) hR
theorem kc_X4_241 (hB : ∀ w ∈ BG, w.before args s = true) (hR : (rmH 2).frames + 1 ≤ R.frames ∧ 8 + (5 + 11) + (rmH 2).locals ≤ R.locals) : CallW R s args RX4 RX0 241 yX0_ofOne cX0_ofOne 5 (some .int) (wsM yX0_ofOne cX0_ofOne 5 (some .int)) (rmH 2) 0 0 2 := k_V hB q_687 q_61 q_684 q_685 q_686 (by decide +kernel) hR
theorem kc_X4_244 (hB : ∀ w ∈ BG, w.before args s = true) (hR : (rmH 1).frames + 1 ≤ R.frames ∧ 8 + (2 + 11) + (rmH 1).locals ≤ R.locals) : CallW R s args RX4 RX0 244 yX0_kindOf cX0_kindOf 2 (some .int) (wsM yX0_kindOf cX0_kindOf 2 (some .int)) (rmH 1) 0 0 1 := k_V hB q_286 q_61 q_630 q_284 q_285 (by decide +kernel) hR
theorem kc_X4_247 (hB : ∀ w ∈ BG, w.before args s = true) (hR : (rmH 5).frames + 1 ≤ R.frames ∧ 8 + (3 + 11) + (rmH 5).locals ≤ R.locals) : CallW R s args RX4 RX3 247 yX3_owedInAll cX3_owedInAll 3 (some .int) (wsM yX3_owedInAll cX3_owedInAll 3 (some .int)) (rmH 5) 0 0 0 := k_V hB q_675 q_59 q_672 q_673 q_674 (by decide +kernel) hR
theorem kc_X4_254 (hB : ∀ w ∈ BG, w.before args s = true) (hR : (rmH 5).frames + 1 ≤ R.frames ∧ 8 + (2 + 11) + (rmH 5).locals ≤ R.locals) : CallW R s args RX4 RX4 254 yX4_count cX4_count 2 (some .int) (wsM yX4_count cX4_count 2 (some .int)) (rmH 5) 0 0 1 := k_V hB q_391 q_58 q_388 q_389 q_390 (by decide +kernel) hR
theorem kc_X4_257 (hB : ∀ w ∈ BG, w.before args s = true) (hR : (rmH 2).frames + 1 ≤ R.frames ∧ 8 + (2 + 11) + (rmH 2).locals ≤ R.locals) : CallW R s args RX4 RX4 257 yX4_setting cX4_setting 2 (some .int) (wsM yX4_setting cX4_setting 2 (some .int)) (rmH 2) 0 0 1 := k_V hB q_480 q_58 q_477 q_478 q_479 (by decide +kernel) hR
theorem kc_X4_260 (hB : ∀ w ∈ BG, w.before args s = true) (hR : (rmH 6).frames + 1 ≤ R.frames ∧ 8 + (8 + 11) + (rmH 6).locals ≤ R.locals) : CallW R s args RX4 RX4 260 yX4_withKind cX4_withKind 8 (some .long) (wsM yX4_withKind cX4_withKind 8 (some .long)) (rmH 6) 0 0 2 := k_V hB q_504 q_58 q_501 q_503 q_5 (by decide +kernel) hR
theorem kc_X4_264 (hB : ∀ w ∈ BG, w.before args s = true) (hR : (rmH 6).frames + 1 ≤ R.frames ∧ 8 + (7 + 11) + (rmH 6).locals ≤ R.locals) : CallW R s args RX4 RX4 264 yX4_withComplaint cX4_withComplaint 7 (some .long) (wsM yX4_withComplaint cX4_withComplaint 7 (some .long)) (rmH 6) 0 0 2 := k_V hB q_595 q_58 q_592 q_594 q_6 (by decide +kernel) hR
theorem kc_X4_267 (hB : ∀ w ∈ BG, w.before args s = true) (hR : (rmH 6).frames + 1 ≤ R.frames ∧ 8 + (6 + 11) + (rmH 6).locals ≤ R.locals) : CallW R s args RX4 RX4 267 yX4_fair cX4_fair 6 (some .int) (wsM yX4_fair cX4_fair 6 (some .int)) (rmH 6) 0 0 1 := k_V hB q_629 q_58 q_626 q_627 q_628 (by decide +kernel) hR
theorem kc_X4_270 (hB : ∀ w ∈ BG, w.before args s = true) (hR : (rmH 6).frames + 1 ≤ R.frames ∧ 8 + (4 + 11) + (rmH 6).locals ≤ R.locals) : CallW R s args RX4 RX4 270 yX4_whyNot cX4_whyNot 4 (some .int) (wsM yX4_whyNot cX4_whyNot 4 (some .int)) (rmH 6) 0 0 3 := k_V hB q_651 q_58 q_648 q_649 q_650 (by decide +kernel) hR
theorem kc_X4_273 (hB : ∀ w ∈ BG, w.before args s = true) (hR : (rmH 6).frames + 1 ≤ R.frames ∧ 8 + (5 + 11) + (rmH 6).locals ≤ R.locals) : CallW R s args RX4 RX4 273 yX4_ifJudged cX4_ifJudged 5 (some .int) (wsM yX4_ifJudged cX4_ifJudged 5 (some .int)) (rmH 6) 0 0 3 := k_V hB q_659 q_58 q_656 q_657 q_658 (by decide +kernel) hR
theorem kc_X4_276 (hB : ∀ w ∈ BG, w.before args s = true) (hR : (rmH 3).frames + 1 ≤ R.frames ∧ 8 + (3 + 11) + (rmH 3).locals ≤ R.locals) : CallW R s args RX4 RX4 276 yX4_ofCustomer cX4_ofCustomer 3 (some .int) (wsM yX4_ofCustomer cX4_ofCustomer 3 (some .int)) (rmH 3) 0 0 2 := k_V hB q_680 q_58 q_677 q_678 q_679 (by decide +kernel) hR
theorem kc_X4_279 (hB : ∀ w ∈ BG, w.before args s = true) (hR : (rmH 6).frames + 1 ≤ R.frames ∧ 8 + (2 + 11) + (rmH 6).locals ≤ R.locals) : CallW R s args RX4 RX4 279 yX4_monthsToEqual cX4_monthsToEqual 2 (some .int) (wsM yX4_monthsToEqual cX4_monthsToEqual 2 (some .int)) (rmH 6) 0 0 0 := k_V hB q_262 q_58 q_689 q_260 q_261 (by decide +kernel) hR
theorem kc_X4_282 (hB : ∀ w ∈ BG, w.before args s = true) (hR : (rmH 4).frames + 1 ≤ R.frames ∧ 8 + (2 + 11) + (rmH 4).locals ≤ R.locals) : CallW R s args RX4 RX4 282 yX4_followShare cX4_followShare 2 (some .double) (wsM yX4_followShare cX4_followShare 2 (some .double)) (rmH 4) 0 0 0 := k_V hB q_360 q_58 q_690 q_358 q_359 (by decide +kernel) hR
theorem kc_X4_286 (hB : ∀ w ∈ BG, w.before args s = true) (hR : (rmH 0).frames + 1 ≤ R.frames ∧ 8 + (8 + 11) + (rmH 0).locals ≤ R.locals) : CallB R s args RX4 286 yX4_bitsOf cX4_bitsOf 8 (some .long) (wsM yX4_bitsOf cX4_bitsOf 8 (some .long)) (rmH 0) 0 0 1 ∧ (Cond.static yX4_bitsOf).before args s = true := k_S hB q_693 q_58 q_691 q_692 (by decide +kernel) hR
theorem kc_X4_290 (hB : ∀ w ∈ BG, w.before args s = true) (hR : (rmH 2).frames + 1 ≤ R.frames ∧ 8 + (6 + 11) + (rmH 2).locals ≤ R.locals) : CallW R s args RX4 RX4 290 yX4_withBuffer cX4_withBuffer 6 (some .long) (wsM yX4_withBuffer cX4_withBuffer 6 (some .long)) (rmH 2) 0 0 1 := k_V hB q_700 q_58 q_697 q_699 q_7 (by decide +kernel) hR
theorem kc_X4_294 (hB : ∀ w ∈ BG, w.before args s = true) (hR : (rmH 5).frames + 1 ≤ R.frames ∧ 8 + (3 + 11) + (rmH 5).locals ≤ R.locals) : CallW R s args RX4 RX4 294 yX4_kind cX4_kind 3 (some .int) (wsM yX4_kind cX4_kind 3 (some .int)) (rmH 5) 0 0 2 := k_V hB q_508 q_58 q_505 q_506 q_507 (by decide +kernel) hR
theorem kc_X4_297 (hB : ∀ w ∈ BG, w.before args s = true) (hR : (rmH 3).frames + 1 ≤ R.frames ∧ 8 + (4 + 11) + (rmH 3).locals ≤ R.locals) : CallW R s args RX4 RX4 297 yX4_amends cX4_amends 4 (some .int) (wsM yX4_amends cX4_amends 4 (some .int)) (rmH 3) 0 0 3 := k_V hB q_539 q_58 q_536 q_537 q_538 (by decide +kernel) hR
theorem kc_X4_300 (hB : ∀ w ∈ BG, w.before args s = true) (hR : (rmH 4).frames + 1 ≤ R.frames ∧ 8 + (5 + 11) + (rmH 4).locals ≤ R.locals) : CallW R s args RX4 RX4 300 yX4_precedent cX4_precedent 5 (some .int) (wsM yX4_precedent cX4_precedent 5 (some .int)) (rmH 4) 0 0 3 := k_V hB q_565 q_58 q_562 q_563 q_564 (by decide +kernel) hR
theorem kc_X4_303 (hB : ∀ w ∈ BG, w.before args s = true) (hR : (rmH 5).frames + 1 ≤ R.frames ∧ 8 + (3 + 11) + (rmH 5).locals ≤ R.locals) : CallW R s args RX4 RX4 303 yX4_complaint cX4_complaint 3 (some .int) (wsM yX4_complaint cX4_complaint 3 (some .int)) (rmH 5) 0 0 2 := k_V hB q_599 q_58 q_596 q_597 q_598 (by decide +kernel) hR
theorem kc_X5_25 (hB : ∀ w ∈ BG, w.before args s = true) (hR : (rmH 0).frames + 1 ≤ R.frames ∧ 8 + (1 + 11) + (rmH 0).locals ≤ R.locals) : CallB R s args RX5 25 yX5_at cX5_at 1 (some .int) (wsM yX5_at cX5_at 1 (some .int)) (rmH 0) 0 0 1 ∧ (Cond.static yX5_at).before args s = true := k_S hB q_914 q_66 q_912 q_913 (by decide +kernel) hR
theorem kc_X5_36 (hB : ∀ w ∈ BG, w.before args s = true) (hR : (rmH 0).frames + 1 ≤ R.frames ∧ 8 + (3 + 11) + (rmH 0).locals ≤ R.locals) : CallB R s args RX5 36 yX5_in cX5_in 3 (some .boolean) (wsM yX5_in cX5_in 3 (some .boolean)) (rmH 0) 0 0 3 ∧ (Cond.static yX5_in).before args s = true := k_S hB q_965 q_66 q_963 q_964 (by decide +kernel) hR
theorem kc_X5_40 (hB : ∀ w ∈ BG, w.before args s = true) (hR : (rmH 1).frames + 1 ≤ R.frames ∧ 8 + (3 + 11) + (rmH 1).locals ≤ R.locals) : CallW R s args RX5 RX5 40 yX5_isAmends cX5_isAmends 3 (some .boolean) (wsM yX5_isAmends cX5_isAmends 3 (some .boolean)) (rmH 1) 0 0 2 := k_V hB q_984 q_66 q_981 q_983 q_13 (by decide +kernel) hR
theorem kc_X5_44 (hB : ∀ w ∈ BG, w.before args s = true) (hR : (rmH 1).frames + 1 ≤ R.frames ∧ 8 + (2 + 11) + (rmH 1).locals ≤ R.locals) : CallB R s args RX5 44 yX5_menuAt cX5_menuAt 2 (some .int) (wsM yX5_menuAt cX5_menuAt 2 (some .int)) (rmH 1) 0 0 2 ∧ (Cond.static yX5_menuAt).before args s = true := k_S hB q_976 q_66 q_974 q_975 (by decide +kernel) hR
theorem kc_X5_48 (hB : ∀ w ∈ BG, w.before args s = true) (hR : (rmH 0).frames + 1 ≤ R.frames ∧ 8 + (3 + 11) + (rmH 0).locals ≤ R.locals) : CallW R s args RX5 RX5 48 yX5_latest cX5_latest 3 (some .int) (wsM yX5_latest cX5_latest 3 (some .int)) (rmH 0) 0 0 2 := k_V hB q_1041 q_66 q_1038 q_1040 q_21 (by decide +kernel) hR
theorem kc_X5_51 (hB : ∀ w ∈ BG, w.before args s = true) (hR : (rmH 2).frames + 1 ≤ R.frames ∧ 8 + (3 + 11) + (rmH 2).locals ≤ R.locals) : CallW R s args RX5 RX5 51 yX5_isOffered cX5_isOffered 3 (some .boolean) (wsM yX5_isOffered cX5_isOffered 3 (some .boolean)) (rmH 2) 0 0 2 := k_V hB q_988 q_66 q_985 q_987 q_14 (by decide +kernel) hR
theorem kc_X5_54 (hB : ∀ w ∈ BG, w.before args s = true) (hR : (rmH 0).frames + 1 ≤ R.frames ∧ 8 + (1 + 11) + (rmH 0).locals ≤ R.locals) : CallB R s args RX5 54 yX5_of cX5_of 1 (some .int) (wsM yX5_of cX5_of 1 (some .int)) (rmH 0) 0 0 1 ∧ (Cond.static yX5_of).before args s = true := k_S hB q_1014 q_66 q_1012 q_1013 (by decide +kernel) hR
theorem kc_X5_57 (hB : ∀ w ∈ BG, w.before args s = true) (hR : (rmH 2).frames + 1 ≤ R.frames ∧ 8 + (3 + 11) + (rmH 2).locals ≤ R.locals) : CallW R s args RX5 RX5 57 yX5_cost cX5_cost 3 (some .int) (wsM yX5_cost cX5_cost 3 (some .int)) (rmH 2) 0 0 2 := k_V hB q_1045 q_66 q_1042 q_1044 q_22 (by decide +kernel) hR
theorem kc_X5_60 (hB : ∀ w ∈ BG, w.before args s = true) (hR : (rmH 1).frames + 1 ≤ R.frames ∧ 8 + (1 + 11) + (rmH 1).locals ≤ R.locals) : CallB R s args RX5 60 yX5_isKind cX5_isKind 1 (some .boolean) (wsM yX5_isKind cX5_isKind 1 (some .boolean)) (rmH 1) 0 0 1 ∧ (Cond.static yX5_isKind).before args s = true := k_S hB q_962 q_66 q_960 q_961 (by decide +kernel) hR
theorem kc_X5_64 (hB : ∀ w ∈ BG, w.before args s = true) (hR : (rmH 0).frames + 1 ≤ R.frames ∧ 8 + (2 + 11) + (rmH 0).locals ≤ R.locals) : CallW R s args RX5 RX5 64 yX5_fails cX5_fails 2 (some .int) (wsM yX5_fails cX5_fails 2 (some .int)) (rmH 0) 0 0 1 := k_V hB q_969 q_66 q_966 q_968 q_11 (by decide +kernel) hR
theorem kc_X5_67 (hB : ∀ w ∈ BG, w.before args s = true) (hR : (rmH 0).frames + 1 ≤ R.frames ∧ 8 + (2 + 11) + (rmH 0).locals ≤ R.locals) : CallW R s args RX5 RX5 67 yX5_save cX5_save 2 none (wsM yX5_save cX5_save 2 none) (rmH 0) 0 0 0 := k_V hB q_973 q_66 q_970 q_972 q_12 (by decide +kernel) hR
theorem kc_X5_70 (hB : ∀ w ∈ BG, w.before args s = true) (hR : (rmH 2).frames + 1 ≤ R.frames ∧ 8 + (4 + 11) + (rmH 2).locals ≤ R.locals) : CallW R s args RX5 RX5 70 yX5_offered cX5_offered 4 (some .int) (wsM yX5_offered cX5_offered 4 (some .int)) (rmH 2) 0 0 1 := k_V hB q_992 q_66 q_989 q_991 q_15 (by decide +kernel) hR
theorem kc_X5_73 (hB : ∀ w ∈ BG, w.before args s = true) (hR : (rmH 1).frames + 1 ≤ R.frames ∧ 8 + (2 + 11) + (rmH 1).locals ≤ R.locals) : CallB R s args RX5 73 yX5_maySet cX5_maySet 2 (some .boolean) (wsM yX5_maySet cX5_maySet 2 (some .boolean)) (rmH 1) 0 0 2 ∧ (Cond.static yX5_maySet).before args s = true := k_S hB q_1003 q_66 q_1001 q_1002 (by decide +kernel) hR
theorem kc_X5_76 (hB : ∀ w ∈ BG, w.before args s = true) (hR : (rmH 1).frames + 1 ≤ R.frames ∧ 8 + (5 + 11) + (rmH 1).locals ≤ R.locals) : CallW R s args RX5 RX5 76 yX5_complainNow cX5_complainNow 5 none (wsM yX5_complainNow cX5_complainNow 5 none) (rmH 1) 0 0 3 := k_V hB q_1011 q_66 q_1008 q_1010 q_16 (by decide +kernel) hR
theorem kc_X5_80 (hB : ∀ w ∈ BG, w.before args s = true) (hR : (rmH 0).frames + 1 ≤ R.frames ∧ 8 + (1 + 11) + (rmH 0).locals ≤ R.locals) : CallB R s args RX5 80 yX5_group cX5_group 1 (some .int) (wsM yX5_group cX5_group 1 (some .int)) (rmH 0) 0 0 1 ∧ (Cond.static yX5_group).before args s = true := k_S hB q_1029 q_66 q_1027 q_1028 (by decide +kernel) hR
theorem kc_X5_83 (hB : ∀ w ∈ BG, w.before args s = true) (hR : (rmH 2).frames + 1 ≤ R.frames ∧ 8 + (4 + 11) + (rmH 2).locals ≤ R.locals) : CallW R s args RX5 RX5 83 yX5_fits cX5_fits 4 (some .boolean) (wsM yX5_fits cX5_fits 4 (some .boolean)) (rmH 2) 0 0 2 := k_V hB q_1033 q_66 q_1030 q_1032 q_19 (by decide +kernel) hR
theorem kc_X5_86 (hB : ∀ w ∈ BG, w.before args s = true) (hR : (rmH 3).frames + 1 ≤ R.frames ∧ 8 + (4 + 11) + (rmH 3).locals ≤ R.locals) : CallW R s args RX5 RX5 86 yX5_binds cX5_binds 4 (some .boolean) (wsM yX5_binds cX5_binds 4 (some .boolean)) (rmH 3) 0 0 2 := k_V hB q_1037 q_66 q_1034 q_1036 q_20 (by decide +kernel) hR
theorem kc_X5_89 (hB : ∀ w ∈ BG, w.before args s = true) (hR : (rmH 1).frames + 1 ≤ R.frames ∧ 8 + (2 + 11) + (rmH 1).locals ≤ R.locals) : CallW R s args RX5 RX5 89 yX5_left cX5_left 2 (some .int) (wsM yX5_left cX5_left 2 (some .int)) (rmH 1) 0 0 1 := k_V hB q_1049 q_66 q_1046 q_1048 q_23 (by decide +kernel) hR
theorem kc_X5_92 (hB : ∀ w ∈ BG, w.before args s = true) (hR : (rmH 3).frames + 1 ≤ R.frames ∧ 8 + (5 + 11) + (rmH 3).locals ≤ R.locals) : CallW R s args RX5 RX5 92 yX5_whyJudged cX5_whyJudged 5 (some .int) (wsM yX5_whyJudged cX5_whyJudged 5 (some .int)) (rmH 3) 0 0 2 := k_V hB q_1073 q_66 q_1070 q_1072 q_27 (by decide +kernel) hR
theorem kc_X5_95 (hB : ∀ w ∈ BG, w.before args s = true) (hR : (rmH 4).frames + 1 ≤ R.frames ∧ 8 + (6 + 11) + (rmH 4).locals ≤ R.locals) : CallW R s args RX5 RX5 95 yX5_whyDecided cX5_whyDecided 6 (some .int) (wsM yX5_whyDecided cX5_whyDecided 6 (some .int)) (rmH 4) 0 0 3 := k_V hB q_1026 q_66 q_1023 q_1025 q_18 (by decide +kernel) hR
theorem kc_X5_99 (hB : ∀ w ∈ BG, w.before args s = true) (hR : (rmH 1).frames + 1 ≤ R.frames ∧ 8 + (2 + 11) + (rmH 1).locals ≤ R.locals) : CallW R s args RX5 RX5 99 yX5_isComplaint cX5_isComplaint 2 (some .boolean) (wsM yX5_isComplaint cX5_isComplaint 2 (some .boolean)) (rmH 1) 0 0 1 := k_V hB q_1022 q_66 q_1019 q_1021 q_17 (by decide +kernel) hR
theorem kc_X5_102 (hB : ∀ w ∈ BG, w.before args s = true) (hR : (rmH 3).frames + 1 ≤ R.frames ∧ 8 + (5 + 11) + (rmH 3).locals ≤ R.locals) : CallW R s args RX5 RX5 102 yX5_give cX5_give 5 none (wsM yX5_give cX5_give 5 none) (rmH 3) 0 0 2 := k_V hB q_1053 q_66 q_1050 q_1052 q_24 (by decide +kernel) hR
theorem kc_X5_106 (hB : ∀ w ∈ BG, w.before args s = true) (hR : (rmH 1).frames + 1 ≤ R.frames ∧ 8 + (4 + 11) + (rmH 1).locals ≤ R.locals) : CallW R s args RX5 RX5 106 yX5_setPrecedent cX5_setPrecedent 4 (some .int) (wsM yX5_setPrecedent cX5_setPrecedent 4 (some .int)) (rmH 1) 0 0 2 := k_V hB q_1057 q_66 q_1054 q_1056 q_25 (by decide +kernel) hR
theorem kc_X5_109 (hB : ∀ w ∈ BG, w.before args s = true) (hR : (rmH 1).frames + 1 ≤ R.frames ∧ 8 + (4 + 11) + (rmH 1).locals ≤ R.locals) : CallW R s args RX5 RX5 109 yX5_staged cX5_staged 4 (some .int) (wsM yX5_staged cX5_staged 4 (some .int)) (rmH 1) 0 0 1 := k_V hB q_1065 q_66 q_1062 q_1064 q_26 (by decide +kernel) hR
theorem kc_X5_115 (hB : ∀ w ∈ BG, w.before args s = true) (hR : (rmH 3).frames + 1 ≤ R.frames ∧ 8 + (4 + 11) + (rmH 3).locals ≤ R.locals) : CallW R s args RX5 RX5 115 yX5_waitsFor cX5_waitsFor 4 (some .int) (wsM yX5_waitsFor cX5_waitsFor 4 (some .int)) (rmH 3) 0 0 1 := k_V hB q_1085 q_66 q_1082 q_1084 q_30 (by decide +kernel) hR
theorem kc_X5_118 (hB : ∀ w ∈ BG, w.before args s = true) (hR : (rmH 4).frames + 1 ≤ R.frames ∧ 8 + (6 + 11) + (rmH 4).locals ≤ R.locals) : CallW R s args RX5 RX5 118 yX5_topUps cX5_topUps 6 (some .int) (wsM yX5_topUps cX5_topUps 6 (some .int)) (rmH 4) 0 0 1 := k_V hB q_1081 q_66 q_1078 q_1080 q_29 (by decide +kernel) hR
theorem kc_X5_121 (hB : ∀ w ∈ BG, w.before args s = true) (hR : (rmH 5).frames + 1 ≤ R.frames ∧ 8 + (6 + 11) + (rmH 5).locals ≤ R.locals) : CallW R s args RX5 RX5 121 yX5_judgeNow cX5_judgeNow 6 (some .int) (wsM yX5_judgeNow cX5_judgeNow 6 (some .int)) (rmH 5) 0 0 2 := k_V hB q_1077 q_66 q_1074 q_1076 q_28 (by decide +kernel) hR
theorem kc_X5_124 (hB : ∀ w ∈ BG, w.before args s = true) (hR : (rmH 5).frames + 1 ≤ R.frames ∧ 8 + (2 + 11) + (rmH 5).locals ≤ R.locals) : CallW R s args RX5 RX5 124 yX5_closeNow cX5_closeNow 2 (some .int) (wsM yX5_closeNow cX5_closeNow 2 (some .int)) (rmH 5) 0 0 0 := k_V hB q_1093 q_66 q_1090 q_1092 q_31 (by decide +kernel) hR
theorem kc_X5_137 (hB : ∀ w ∈ BG, w.before args s = true) (hR : (rmH 0).frames + 1 ≤ R.frames ∧ 8 + (3 + 11) + (rmH 0).locals ≤ R.locals) : CallW R s args RX5 RX5 137 yX5_takes cX5_takes 3 (some .boolean) (wsM yX5_takes cX5_takes 3 (some .boolean)) (rmH 0) 0 0 1 := k_V hB q_1117 q_66 q_1114 q_1116 q_34 (by decide +kernel) hR
theorem kc_X5_140 (hB : ∀ w ∈ BG, w.before args s = true) (hR : (rmH 1).frames + 1 ≤ R.frames ∧ 8 + (6 + 11) + (rmH 1).locals ≤ R.locals) : CallW R s args RX5 RX5 140 yX5_digit cX5_digit 6 (some .boolean) (wsM yX5_digit cX5_digit 6 (some .boolean)) (rmH 1) 0 0 3 := k_V hB q_1121 q_66 q_1118 q_1120 q_35 (by decide +kernel) hR
theorem kc_X5_143 (hB : ∀ w ∈ BG, w.before args s = true) (hR : (rmH 2).frames + 1 ≤ R.frames ∧ 8 + (3 + 11) + (rmH 2).locals ≤ R.locals) : CallW R s args RX5 RX5 143 yX5_isOne cX5_isOne 3 (some .boolean) (wsM yX5_isOne cX5_isOne 3 (some .boolean)) (rmH 2) 0 0 0 := k_V hB q_1113 q_66 q_1110 q_1112 q_33 (by decide +kernel) hR
theorem kc_X5_147 (hB : ∀ w ∈ BG, w.before args s = true) (hR : (rmH 3).frames + 1 ≤ R.frames ∧ 8 + (2 + 11) + (rmH 3).locals ≤ R.locals) : CallW R s args RX5 RX5 147 yX5_isText cX5_isText 2 (some .boolean) (wsM yX5_isText cX5_isText 2 (some .boolean)) (rmH 3) 0 0 0 := k_V hB q_1109 q_66 q_1106 q_1108 q_32 (by decide +kernel) hR
theorem kc_X5_150 (hB : ∀ w ∈ BG, w.before args s = true) (hR : (rmH 4).frames + 1 ≤ R.frames ∧ 8 + (4 + 11) + (rmH 4).locals ≤ R.locals) : CallW R s args RX5 RX5 150 yX5_complaintOf cX5_complaintOf 4 (some .int) (wsM yX5_complaintOf cX5_complaintOf 4 (some .int)) (rmH 4) 0 0 2 := k_V hB q_1137 q_66 q_1134 q_1136 q_36 (by decide +kernel) hR
theorem kc_X5_153 (hB : ∀ w ∈ BG, w.before args s = true) (hR : (rmH 1).frames + 1 ≤ R.frames ∧ 8 + (5 + 11) + (rmH 1).locals ≤ R.locals) : CallW R s args RX5 RX5 153 yX5_having cX5_having 5 (some .int) (wsM yX5_having cX5_having 5 (some .int)) (rmH 1) 0 0 2 := k_V hB q_1149 q_66 q_1146 q_1148 q_38 (by decide +kernel) hR
theorem kc_X5_156 (hB : ∀ w ∈ BG, w.before args s = true) (hR : (rmH 2).frames + 1 ≤ R.frames ∧ 8 + (4 + 11) + (rmH 2).locals ≤ R.locals) : CallW R s args RX5 RX5 156 yX5_amendsOf cX5_amendsOf 4 (some .int) (wsM yX5_amendsOf cX5_amendsOf 4 (some .int)) (rmH 2) 0 0 3 := k_V hB q_1145 q_66 q_1142 q_1144 q_37 (by decide +kernel) hR
theorem kc_X5_159 (hB : ∀ w ∈ BG, w.before args s = true) (hR : (rmH 1).frames + 1 ≤ R.frames ∧ 8 + (4 + 11) + (rmH 1).locals ≤ R.locals) : CallW R s args RX5 RX5 159 yX5_following cX5_following 4 (some .int) (wsM yX5_following cX5_following 4 (some .int)) (rmH 1) 0 0 1 := k_V hB q_1161 q_66 q_1158 q_1160 q_40 (by decide +kernel) hR
theorem kc_X5_162 (hB : ∀ w ∈ BG, w.before args s = true) (hR : (rmH 4).frames + 1 ≤ R.frames ∧ 8 + (5 + 11) + (rmH 4).locals ≤ R.locals) : CallW R s args RX5 RX5 162 yX5_precedentOf cX5_precedentOf 5 (some .int) (wsM yX5_precedentOf cX5_precedentOf 5 (some .int)) (rmH 4) 0 0 3 := k_V hB q_1157 q_66 q_1154 q_1156 q_39 (by decide +kernel) hR
theorem kc_X5_165 (hB : ∀ w ∈ BG, w.before args s = true) (hR : (rmH 4).frames + 1 ≤ R.frames ∧ 8 + (6 + 11) + (rmH 4).locals ≤ R.locals) : CallW R s args RX5 RX5 165 yX5_ofComplaints cX5_ofComplaints 6 (some .int) (wsM yX5_ofComplaints cX5_ofComplaints 6 (some .int)) (rmH 4) 0 0 2 := k_V hB q_1173 q_66 q_1170 q_1172 q_42 (by decide +kernel) hR
theorem kc_X5_168 (hB : ∀ w ∈ BG, w.before args s = true) (hR : (rmH 5).frames + 1 ≤ R.frames ∧ 8 + (3 + 11) + (rmH 5).locals ≤ R.locals) : CallW R s args RX5 RX5 168 yX5_kindOf cX5_kindOf 3 (some .int) (wsM yX5_kindOf cX5_kindOf 3 (some .int)) (rmH 5) 0 0 2 := k_V hB q_1169 q_66 q_1166 q_1168 q_41 (by decide +kernel) hR
theorem kc_X5_171 (hB : ∀ w ∈ BG, w.before args s = true) (hR : (rmH 1).frames + 1 ≤ R.frames ∧ 8 + (3 + 11) + (rmH 1).locals ≤ R.locals) : CallW R s args RX5 RX5 171 yX5_departing cX5_departing 3 (some .int) (wsM yX5_departing cX5_departing 3 (some .int)) (rmH 1) 0 0 0 := k_V hB q_1185 q_66 q_1182 q_1184 q_44 (by decide +kernel) hR
theorem kc_X5_174 (hB : ∀ w ∈ BG, w.before args s = true) (hR : (rmH 1).frames + 1 ≤ R.frames ∧ 8 + (5 + 11) + (rmH 1).locals ≤ R.locals) : CallW R s args RX5 RX5 174 yX5_unequal cX5_unequal 5 (some .int) (wsM yX5_unequal cX5_unequal 5 (some .int)) (rmH 1) 0 0 0 := k_V hB q_1189 q_66 q_1186 q_1188 q_45 (by decide +kernel) hR
theorem kc_X5_177 (hB : ∀ w ∈ BG, w.before args s = true) (hR : (rmH 5).frames + 1 ≤ R.frames ∧ 8 + (2 + 11) + (rmH 5).locals ≤ R.locals) : CallW R s args RX5 RX5 177 yX5_counted cX5_counted 2 (some .int) (wsM yX5_counted cX5_counted 2 (some .int)) (rmH 5) 0 0 1 := k_V hB q_1181 q_66 q_1178 q_1180 q_43 (by decide +kernel) hR
theorem kc_X5_180 (hB : ∀ w ∈ BG, w.before args s = true) (hR : (rmH 1).frames + 1 ≤ R.frames ∧ 8 + (7 + 11) + (rmH 1).locals ≤ R.locals) : CallW R s args RX5 RX5 180 yX5_customerAt cX5_customerAt 7 (some .int) (wsM yX5_customerAt cX5_customerAt 7 (some .int)) (rmH 1) 0 0 2 := k_V hB q_1201 q_66 q_1198 q_1200 q_46 (by decide +kernel) hR
theorem kc_X5_183 (hB : ∀ w ∈ BG, w.before args s = true) (hR : (rmH 5).frames + 1 ≤ R.frames ∧ 8 + (4 + 11) + (rmH 5).locals ≤ R.locals) : CallW R s args RX5 RX5 183 yX5_why cX5_why 4 (some .int) (wsM yX5_why cX5_why 4 (some .int)) (rmH 5) 0 0 3 := k_V hB q_1209 q_66 q_1206 q_1208 q_47 (by decide +kernel) hR
theorem kc_X5_186 (hB : ∀ w ∈ BG, w.before args s = true) (hR : (rmH 5).frames + 1 ≤ R.frames ∧ 8 + (6 + 11) + (rmH 5).locals ≤ R.locals) : CallW R s args RX5 RX5 186 yX5_fairOf cX5_fairOf 6 (some .int) (wsM yX5_fairOf cX5_fairOf 6 (some .int)) (rmH 5) 0 0 1 := k_V hB q_1217 q_66 q_1214 q_1216 q_48 (by decide +kernel) hR
theorem kc_X5_189 (hB : ∀ w ∈ BG, w.before args s = true) (hR : (rmH 0).frames + 1 ≤ R.frames ∧ 8 + (2 + 11) + (rmH 0).locals ≤ R.locals) : CallW R s args RX5 RX5 189 yX5_putAside cX5_putAside 2 none (wsM yX5_putAside cX5_putAside 2 none) (rmH 0) 0 0 0 := k_V hB q_1229 q_66 q_1226 q_1228 q_50 (by decide +kernel) hR
theorem kc_X5_192 (hB : ∀ w ∈ BG, w.before args s = true) (hR : (rmH 0).frames + 1 ≤ R.frames ∧ 8 + (2 + 11) + (rmH 0).locals ≤ R.locals) : CallW R s args RX5 RX5 192 yX5_putBack cX5_putBack 2 none (wsM yX5_putBack cX5_putBack 2 none) (rmH 0) 0 0 0 := k_V hB q_1233 q_66 q_1230 q_1232 q_51 (by decide +kernel) hR
theorem kc_X5_195 (hB : ∀ w ∈ BG, w.before args s = true) (hR : (rmH 6).frames + 1 ≤ R.frames ∧ 8 + (6 + 11) + (rmH 6).locals ≤ R.locals) : CallW R s args RX5 RX5 195 yX5_judgedOf cX5_judgedOf 6 (some .int) (wsM yX5_judgedOf cX5_judgedOf 6 (some .int)) (rmH 6) 0 0 3 := k_V hB q_1225 q_66 q_1222 q_1224 q_49 (by decide +kernel) hR
theorem kc_X5_198 (hB : ∀ w ∈ BG, w.before args s = true) (hR : (rmH 6).frames + 1 ≤ R.frames ∧ 8 + (2 + 11) + (rmH 6).locals ≤ R.locals) : CallW R s args RX5 RX5 198 yX5_monthsOf cX5_monthsOf 2 (some .int) (wsM yX5_monthsOf cX5_monthsOf 2 (some .int)) (rmH 6) 0 0 0 := k_V hB q_1241 q_66 q_1238 q_1240 q_52 (by decide +kernel) hR
theorem kc_X5_201 (hB : ∀ w ∈ BG, w.before args s = true) (hR : (rmH 2).frames + 1 ≤ R.frames ∧ 8 + (2 + 11) + (rmH 2).locals ≤ R.locals) : CallW R s args RX5 RX5 201 yX5_shareOf cX5_shareOf 2 (some .double) (wsM yX5_shareOf cX5_shareOf 2 (some .double)) (rmH 2) 0 0 0 := k_V hB q_1249 q_66 q_1246 q_1248 q_53 (by decide +kernel) hR
theorem kc_X5_211 (hB : ∀ w ∈ BG, w.before args s = true) (hR : (rmH 0).frames + 1 ≤ R.frames ∧ 8 + (3 + 11) + (rmH 0).locals ≤ R.locals) : CallW R s args RX5 RX5 211 yX5_mix cX5_mix 3 none (wsM yX5_mix cX5_mix 3 none) (rmH 0) 0 0 1 := k_V hB q_1258 q_66 q_1255 q_1257 q_54 (by decide +kernel) hR
theorem kc_X5_217 (hB : ∀ w ∈ BG, w.before args s = true) (hR : (rmH 6).frames + 1 ≤ R.frames ∧ 8 + (3 + 11) + (rmH 6).locals ≤ R.locals) : CallW R s args RX5 RX5 217 yX5_mixKind cX5_mixKind 3 none (wsM yX5_mixKind cX5_mixKind 3 none) (rmH 6) 0 0 1 := k_V hB q_1263 q_66 q_1260 q_1262 q_55 (by decide +kernel) hR
theorem kc_X5_221 (hB : ∀ w ∈ BG, w.before args s = true) (hR : (rmH 7).frames + 1 ≤ R.frames ∧ 8 + (3 + 11) + (rmH 7).locals ≤ R.locals) : CallW R s args RX5 RX5 221 yX5_mixComplaint cX5_mixComplaint 3 none (wsM yX5_mixComplaint cX5_mixComplaint 3 none) (rmH 7) 0 0 1 := k_V hB q_1267 q_66 q_1264 q_1266 q_56 (by decide +kernel) hR
theorem kc_X5_224 (hB : ∀ w ∈ BG, w.before args s = true) (hR : (rmH 1).frames + 1 ≤ R.frames ∧ 8 + (2 + 11) + (rmH 1).locals ≤ R.locals) : CallB R s args RX5 224 yJD_doubleToLongBits cJD_doubleToLongBits 2 (some .long) (wsM yJD_doubleToLongBits cJD_doubleToLongBits 2 (some .long)) (rmH 1) 0 0 1 ∧ (Cond.static yJD_doubleToLongBits).before args s = true := k_S hB q_1270 q_74 q_1268 q_1269 (by decide +kernel) hR
end LK
end
section
theorem dX4_isKind_0 : decode cX4_isKind 0 = .ok (.iload_n 0, 1) := by decide +kernel
theorem dX4_isKind_1 : decode cX4_isKind 1 = .ok (.ifCond .lt 12, 3) := by decide +kernel
theorem dX4_isKind_4 : decode cX4_isKind 4 = .ok (.iload_n 0, 1) := by decide +kernel
theorem dX4_isKind_5 : decode cX4_isKind 5 = .ok (.iconst 4, 1) := by decide +kernel
theorem dX4_isKind_6 : decode cX4_isKind 6 = .ok (.if_icmp .ge 7, 3) := by decide +kernel
theorem dX4_isKind_9 : decode cX4_isKind 9 = .ok (.iconst 1, 1) := by decide +kernel
theorem dX4_isKind_10 : decode cX4_isKind 10 = .ok (.goto 4, 3) := by decide +kernel
theorem dX4_isKind_13 : decode cX4_isKind 13 = .ok (.iconst 0, 1) := by decide +kernel
theorem dX4_isKind_14 : decode cX4_isKind 14 = .ok (.ireturn, 1) := by decide +kernel
theorem dX4_isGroup_0 : decode cX4_isGroup 0 = .ok (.iload_n 0, 1) := by decide +kernel
theorem dX4_isGroup_1 : decode cX4_isGroup 1 = .ok (.ifCond .lt 12, 3) := by decide +kernel
theorem dX4_isGroup_4 : decode cX4_isGroup 4 = .ok (.iload_n 0, 1) := by decide +kernel
theorem dX4_isGroup_5 : decode cX4_isGroup 5 = .ok (.iconst 3, 1) := by decide +kernel
theorem dX4_isGroup_6 : decode cX4_isGroup 6 = .ok (.if_icmp .ge 7, 3) := by decide +kernel
theorem dX4_isGroup_9 : decode cX4_isGroup 9 = .ok (.iconst 1, 1) := by decide +kernel
theorem dX4_isGroup_10 : decode cX4_isGroup 10 = .ok (.goto 4, 3) := by decide +kernel
theorem dX4_isGroup_13 : decode cX4_isGroup 13 = .ok (.iconst 0, 1) := by decide +kernel
theorem dX4_isGroup_14 : decode cX4_isGroup 14 = .ok (.ireturn, 1) := by decide +kernel
theorem dX4_isWithin_0 : decode cX4_isWithin 0 = .ok (.iload_n 0, 1) := by decide +kernel
theorem dX4_isWithin_1 : decode cX4_isWithin 1 = .ok (.iload_n 1, 1) := by decide +kernel
theorem dX4_isWithin_2 : decode cX4_isWithin 2 = .ok (.if_icmp .lt 12, 3) := by decide +kernel
theorem dX4_isWithin_5 : decode cX4_isWithin 5 = .ok (.iload_n 0, 1) := by decide +kernel
theorem dX4_isWithin_6 : decode cX4_isWithin 6 = .ok (.iload_n 2, 1) := by decide +kernel
theorem dX4_isWithin_7 : decode cX4_isWithin 7 = .ok (.if_icmp .gt 7, 3) := by decide +kernel
theorem dX4_isWithin_10 : decode cX4_isWithin 10 = .ok (.iconst 1, 1) := by decide +kernel
theorem dX4_isWithin_11 : decode cX4_isWithin 11 = .ok (.goto 4, 3) := by decide +kernel
theorem dX4_isWithin_14 : decode cX4_isWithin 14 = .ok (.iconst 0, 1) := by decide +kernel
theorem dX4_isWithin_15 : decode cX4_isWithin 15 = .ok (.ireturn, 1) := by decide +kernel
theorem dX4_isSetting_0 : decode cX4_isSetting 0 = .ok (.iload_n 0, 1) := by decide +kernel
theorem dX4_isSetting_1 : decode cX4_isSetting 1 = .ok (.ifCond .lt 12, 3) := by decide +kernel
theorem dX4_isSetting_4 : decode cX4_isSetting 4 = .ok (.iload_n 0, 1) := by decide +kernel
theorem dX4_isSetting_5 : decode cX4_isSetting 5 = .ok (.iconst 3, 1) := by decide +kernel
theorem dX4_isSetting_6 : decode cX4_isSetting 6 = .ok (.if_icmp .ge 7, 3) := by decide +kernel
theorem dX4_isSetting_9 : decode cX4_isSetting 9 = .ok (.iconst 1, 1) := by decide +kernel
theorem dX4_isSetting_10 : decode cX4_isSetting 10 = .ok (.goto 4, 3) := by decide +kernel
theorem dX4_isSetting_13 : decode cX4_isSetting 13 = .ok (.iconst 0, 1) := by decide +kernel
theorem dX4_isSetting_14 : decode cX4_isSetting 14 = .ok (.ireturn, 1) := by decide +kernel
theorem dX4_isCustomer_0 : decode cX4_isCustomer 0 = .ok (.iload_n 0, 1) := by decide +kernel
theorem dX4_isCustomer_1 : decode cX4_isCustomer 1 = .ok (.ifCond .lt 13, 3) := by decide +kernel
theorem dX4_isCustomer_4 : decode cX4_isCustomer 4 = .ok (.iload_n 0, 1) := by decide +kernel
theorem dX4_isCustomer_5 : decode cX4_isCustomer 5 = .ok (.bipush 10, 2) := by decide +kernel
theorem dX4_isCustomer_7 : decode cX4_isCustomer 7 = .ok (.if_icmp .ge 7, 3) := by decide +kernel
theorem dX4_isCustomer_10 : decode cX4_isCustomer 10 = .ok (.iconst 1, 1) := by decide +kernel
theorem dX4_isCustomer_11 : decode cX4_isCustomer 11 = .ok (.goto 4, 3) := by decide +kernel
theorem dX4_isCustomer_14 : decode cX4_isCustomer 14 = .ok (.iconst 0, 1) := by decide +kernel
theorem dX4_isCustomer_15 : decode cX4_isCustomer 15 = .ok (.ireturn, 1) := by decide +kernel
theorem dX4_requireIndex_0 : decode cX4_requireIndex 0 = .ok (.iload_n 0, 1) := by decide +kernel
theorem dX4_requireIndex_1 : decode cX4_requireIndex 1 = .ok (.ifCond .ne 11, 3) := by decide +kernel
theorem dX4_requireIndex_4 : decode cX4_requireIndex 4 = .ok (.new 312, 3) := by decide +kernel
theorem dX4_requireIndex_7 : decode cX4_requireIndex 7 = .ok (.dup, 1) := by decide +kernel
theorem dX4_requireIndex_8 : decode cX4_requireIndex 8 = .ok (.invokespecial 314, 3) := by decide +kernel
theorem dX4_requireIndex_11 : decode cX4_requireIndex 11 = .ok (.athrow, 1) := by decide +kernel
theorem dX4_requireIndex_12 : decode cX4_requireIndex 12 = .ok (.return_, 1) := by decide +kernel
theorem dX4_requireArgument_0 : decode cX4_requireArgument 0 = .ok (.iload_n 0, 1) := by decide +kernel
theorem dX4_requireArgument_1 : decode cX4_requireArgument 1 = .ok (.ifCond .ne 11, 3) := by decide +kernel
theorem dX4_requireArgument_4 : decode cX4_requireArgument 4 = .ok (.new 315, 3) := by decide +kernel
theorem dX4_requireArgument_7 : decode cX4_requireArgument 7 = .ok (.dup, 1) := by decide +kernel
theorem dX4_requireArgument_8 : decode cX4_requireArgument 8 = .ok (.invokespecial 317, 3) := by decide +kernel
theorem dX4_requireArgument_11 : decode cX4_requireArgument 11 = .ok (.athrow, 1) := by decide +kernel
theorem dX4_requireArgument_12 : decode cX4_requireArgument 12 = .ok (.return_, 1) := by decide +kernel
theorem dX4_requireState_0 : decode cX4_requireState 0 = .ok (.iload_n 0, 1) := by decide +kernel
theorem dX4_requireState_1 : decode cX4_requireState 1 = .ok (.ifCond .ne 11, 3) := by decide +kernel
theorem dX4_requireState_4 : decode cX4_requireState 4 = .ok (.new 318, 3) := by decide +kernel
theorem dX4_requireState_7 : decode cX4_requireState 7 = .ok (.dup, 1) := by decide +kernel
theorem dX4_requireState_8 : decode cX4_requireState 8 = .ok (.invokespecial 320, 3) := by decide +kernel
theorem dX4_requireState_11 : decode cX4_requireState 11 = .ok (.athrow, 1) := by decide +kernel
theorem dX4_requireState_12 : decode cX4_requireState 12 = .ok (.return_, 1) := by decide +kernel
theorem dJD_isNaN_0 : decode cJxe99ae_isNaN_b9ae7 0 = .ok (.dload_n 0, 1) := by decide +kernel
theorem dJD_isNaN_1 : decode cJxe99ae_isNaN_b9ae7 1 = .ok (.dload_n 0, 1) := by decide +kernel
theorem dJD_isNaN_2 : decode cJxe99ae_isNaN_b9ae7 2 = .ok (.dcmp .l, 1) := by decide +kernel
theorem dJD_isNaN_3 : decode cJxe99ae_isNaN_b9ae7 3 = .ok (.ifCond .eq 7, 3) := by decide +kernel
theorem dJD_isNaN_6 : decode cJxe99ae_isNaN_b9ae7 6 = .ok (.iconst 1, 1) := by decide +kernel
theorem dJD_isNaN_7 : decode cJxe99ae_isNaN_b9ae7 7 = .ok (.goto 4, 3) := by decide +kernel
theorem dJD_isNaN_10 : decode cJxe99ae_isNaN_b9ae7 10 = .ok (.iconst 0, 1) := by decide +kernel
theorem dJD_isNaN_11 : decode cJxe99ae_isNaN_b9ae7 11 = .ok (.ireturn, 1) := by decide +kernel
theorem dJD_doubleToLongBits_0 : decode cJxe99ae_doubleToLongBits_ccdee 0 = .ok (.dload_n 0, 1) := by decide +kernel
theorem dJD_doubleToLongBits_1 : decode cJxe99ae_doubleToLongBits_ccdee 1 = .ok (.invokestatic 122, 3) := by decide +kernel
theorem dJD_doubleToLongBits_4 : decode cJxe99ae_doubleToLongBits_ccdee 4 = .ok (.ifCond .ne 8, 3) := by decide +kernel
theorem dJD_doubleToLongBits_7 : decode cJxe99ae_doubleToLongBits_ccdee 7 = .ok (.dload_n 0, 1) := by decide +kernel
theorem dJD_doubleToLongBits_8 : decode cJxe99ae_doubleToLongBits_ccdee 8 = .ok (.invokestatic 134, 3) := by decide +kernel
theorem dJD_doubleToLongBits_11 : decode cJxe99ae_doubleToLongBits_ccdee 11 = .ok (.lreturn, 1) := by decide +kernel
theorem dJD_doubleToLongBits_12 : decode cJxe99ae_doubleToLongBits_ccdee 12 = .ok (.ldc2_w 137, 3) := by decide +kernel
theorem dJD_doubleToLongBits_15 : decode cJxe99ae_doubleToLongBits_ccdee 15 = .ok (.lreturn, 1) := by decide +kernel
theorem dX4_copyAll_0 : decode cX4_copyAll 0 = .ok (.aload_n 0, 1) := by decide +kernel
theorem dX4_copyAll_1 : decode cX4_copyAll 1 = .ok (.iconst 0, 1) := by decide +kernel
theorem dX4_copyAll_2 : decode cX4_copyAll 2 = .ok (.aload_n 1, 1) := by decide +kernel
theorem dX4_copyAll_3 : decode cX4_copyAll 3 = .ok (.iconst 0, 1) := by decide +kernel
theorem dX4_copyAll_4 : decode cX4_copyAll 4 = .ok (.aload_n 0, 1) := by decide +kernel
theorem dX4_copyAll_5 : decode cX4_copyAll 5 = .ok (.arraylength, 1) := by decide +kernel
theorem dX4_copyAll_6 : decode cX4_copyAll 6 = .ok (.aload_n 1, 1) := by decide +kernel
theorem dX4_copyAll_7 : decode cX4_copyAll 7 = .ok (.arraylength, 1) := by decide +kernel
theorem dX4_copyAll_8 : decode cX4_copyAll 8 = .ok (.invokestatic 327, 3) := by decide +kernel
theorem dX4_copyAll_11 : decode cX4_copyAll 11 = .ok (.invokestatic 332, 3) := by decide +kernel
theorem dX4_copyAll_14 : decode cX4_copyAll 14 = .ok (.return_, 1) := by decide +kernel
theorem dX4_savedAt_0 : decode cX4_savedAt 0 = .ok (.iload_n 1, 1) := by decide +kernel
theorem dX4_savedAt_1 : decode cX4_savedAt 1 = .ok (.iconst 0, 1) := by decide +kernel
theorem dX4_savedAt_2 : decode cX4_savedAt 2 = .ok (.iconst 5, 1) := by decide +kernel
theorem dX4_savedAt_3 : decode cX4_savedAt 3 = .ok (.invokestatic 35, 3) := by decide +kernel
theorem dX4_savedAt_6 : decode cX4_savedAt 6 = .ok (.ifCond .eq 12, 3) := by decide +kernel
theorem dX4_savedAt_9 : decode cX4_savedAt 9 = .ok (.aload_n 0, 1) := by decide +kernel
theorem dX4_savedAt_10 : decode cX4_savedAt 10 = .ok (.getfield 19, 3) := by decide +kernel
theorem dX4_savedAt_13 : decode cX4_savedAt 13 = .ok (.iload_n 1, 1) := by decide +kernel
theorem dX4_savedAt_14 : decode cX4_savedAt 14 = .ok (.aaload, 1) := by decide +kernel
theorem dX4_savedAt_15 : decode cX4_savedAt 15 = .ok (.goto 4, 3) := by decide +kernel
theorem dX4_savedAt_18 : decode cX4_savedAt 18 = .ok (.aconst_null, 1) := by decide +kernel
theorem dX4_savedAt_19 : decode cX4_savedAt 19 = .ok (.areturn, 1) := by decide +kernel
def f_X4_isWithin (a0 : Int32) (a1 : Int32) (a2 : Int32) : Option (Int32) :=
    if (a0 < a1 : Prop) then
      some 0
    else
      (if (a2 < a0 : Prop) then
        some 0
      else
        some 1)
set_option maxRecDepth 100000 in
set_option maxHeartbeats 4000000 in
theorem p_X4_isWithin (l : Launch) (E : TE) (x m : XS) (g o : Int64) {a0 : Int32} {a1 : Int32} {a2 : Int32} {r : Int32} (hf : f_X4_isWithin a0 a1 a2 = some r) : MG l E yX4_isWithin cX4_isWithin 3 (some .boolean) 0 [.int a0, .int a1, .int a2] (Wd E x m g o) (Wd E x m g o) (some (.int r)) := by
  unfold f_X4_isWithin at hf
  refine m_in (by decide) (Nat.le_of_ble_eq_true rfl) ?_
  intro p e s mi args below meth c H ls hx hb hr hlk hml hown hB hK hW hS hl
  have hl : lv_has ls 3 [(0, .int a0), (1, .int a1), (2, .int a2)] := hl
  refine lv_iload_n hx hb dX4_isWithin_0 rfl (lv_at hl 0 rfl) ?_
  refine lv_iload_n hx hb dX4_isWithin_1 rfl (lv_at hl 1 rfl) ?_
  refine lv_icmp_lt (tgt := 14) hx hb dX4_isWithin_2 (by decide) (fun c2 => ?_) (fun c2 => ?_)
  · rw [if_pos c2] at hf
    refine lv_iconst (v := 0) hx hb dX4_isWithin_14 (by decide) ?_
    cases hf
    exact e_z hx hb hr hlk (Or.inl rfl) hW hS dX4_isWithin_15
  · rw [if_neg c2] at hf
    refine lv_iload_n hx hb dX4_isWithin_5 rfl (lv_at hl 0 rfl) ?_
    refine lv_iload_n hx hb dX4_isWithin_6 rfl (lv_at hl 2 rfl) ?_
    refine lv_icmp_gt (tgt := 14) hx hb dX4_isWithin_7 (by decide) (fun c7 => ?_) (fun c7 => ?_)
    · rw [if_pos c7] at hf
      refine lv_iconst (v := 0) hx hb dX4_isWithin_14 (by decide) ?_
      cases hf
      exact e_z hx hb hr hlk (Or.inl rfl) hW hS dX4_isWithin_15
    · rw [if_neg c7] at hf
      refine lv_iconst (v := 1) hx hb dX4_isWithin_10 (by decide) ?_
      refine lv_goto (tgt := 15) hx hb dX4_isWithin_11 (by decide) ?_
      cases hf
      exact e_z hx hb hr hlk (Or.inr rfl) hW hS dX4_isWithin_15
def cpA (x : XS) (k1 k2 N : Nat) : XS := fun k => if k = k2 then va_cpy (x k1) (x k2) 0 0 N else x k
def wl (E : TE) (x m : XS) (g o : Int64) : va_W := (List.range 218).map (fun k => (eh E + k, cellV E x m g o k))
theorem wl_get {E : TE} {x m : XS} {g o : Int64} {k : Nat} (hk : k < 218) {c : va_E} (hc : cellV E x m g o k = c) : (wl E x m g o)[k]? = some (eh E + k, c) := by
  unfold wl; rw [List.getElem?_map, List.getElem?_range hk]; simp [hc]
theorem wl_P {E : TE} {x m : XS} {g o : Int64} {H : Heap} (hW : Wd E x m g o H) : va_P (eD E) vwCl (wl E x m g o) H := by
  intro k q hq
  unfold wl at hq
  rw [List.getElem?_map] at hq
  by_cases hk : k < 218
  · rw [List.getElem?_range hk] at hq
    cases hq
    exact hW.2 k hk
  · rw [List.getElem?_eq_none (by simpa using hk)] at hq; cases hq
theorem wl_D {E : TE} {x m : XS} {g o : Int64} : va_D (Ah E) (wl E x m g o) := by
  have key : ∀ (k : Nat) (q : Nat × va_E), (wl E x m g o)[k]? = some q → q.1 = eh E + k := by
    intro k q hq
    unfold wl at hq
    rw [List.getElem?_map] at hq
    by_cases hk : k < 218
    · rw [List.getElem?_range hk] at hq
      cases hq
      rfl
    · rw [List.getElem?_eq_none (by simpa using hk)] at hq; cases hq
  refine ⟨fun i j p q hi hj hpq => ?_, fun k q hk => ?_⟩
  · have h1 := key i p hi; have h2 := key j q hj; omega
  · show eh E ≤ q.1
    have := key k q hk; omega
theorem wl_up {E : TE} {x m x1 m1 : XS} {g o g1 o1 : Int64} {H1 : Heap} {k : Nat} (hk : k < 218) {c : va_E} (hP : va_P (eD E) vwCl ((wl E x m g o).set k (eh E + k, c)) H1) (hc : cellV E x1 m1 g1 o1 k = c) (hs : ∀ q, q < 218 → q ≠ k → cellV E x1 m1 g1 o1 q = cellV E x m g o q) : Wd E x1 m1 g1 o1 H1 := by
  have key : ∀ q, q < 218 → va_at (eD E) vwCl (eh E + q, cellV E x1 m1 g1 o1 q) H1 := by
    intro q hq
    by_cases e : q = k
    · subst e
      rw [hc]
      refine hP q _ ?_
      rw [List.getElem?_set_self (by unfold wl; simp; exact hk)]
    · rw [hs q hq e]
      refine hP q _ ?_
      rw [List.getElem?_set_ne (Ne.symm e)]
      exact wl_get hq rfl
  exact ⟨by have := (key 217 (by decide)).lt; show eh E + 218 ≤ H1.size; exact this, key⟩
theorem cellV_cp {E : TE} {x m : XS} {g o : Int64} {k1 k2 N : Nat} : ∀ q, q < 218 → q ≠ k2 → cellV E (cpA x k1 k2 N) m g o q = cellV E x m g o q := by
  intro q _ hq; unfold cellV rowV
  rw [show cpA x k1 k2 N q = x q from if_neg hq]
section BS
variable {p : Program} {l : Launch} {e : Env} {R : Room} {s : State} {mi : MethodId} {args : Array Value} {below : List Frame} {meth : Method} {c : Code} {H : Heap} {locs : List Loc} {cells slots : Nat} {Q : State → Prop}
variable {cc : ByteArray} {pc : Nat} {ls : Array Slot} {rest : List Value} {E : TE} {x m : XS} {g o : Int64}
theorem r_sald (hx : p.tables.exec = Jvm.exec) (hb : c.code = cc) {a : Nat} {f : Nat → Int32} (hT : va_T .int a 3 (fun j => .int (f j)) (Ah E) s s.heap) (hS : va_S (Ah E) s.heap H locs) {i v : Int32} (hv : aget 3 f i = some v) (hdg : decode cc pc = .ok (.iaload, 1))
    (kk : W p l e R s mi args below meth c H locs cells slots Q (F0 mi (pc + 1) ls (.int v :: rest))) : W p l e R s mi args below meth c H locs cells slots Q (F0 mi pc ls (.int i :: .ref a :: rest)) := by
  obtain ⟨hin, rfl⟩ := aget_some hv
  exact va_ti hx hb hT hS hin rfl hdg kk
theorem r_copy (hx : p.tables.exec = Jvm.exec) (hb : c.code = cc) (hml : c.maxLocals = ls.size) (hown : s.vm.findClass RX4 = some mi.cls) (hB : ∀ w ∈ BG, w.before args s = true) (hK : Ks E s) (hW : Wd E x m g o H) (hS : va_S (Ah E) s.heap H locs) {k1 k2 N : Nat} (hN : N < 65) (h1 : k1 < 211) (h2 : k2 < 211) (hc1 : ∀ x : XS, cellV E x m g o k1 = ar E N (x k1)) (hc2 : ∀ x : XS, cellV E x m g o k2 = ar E N (x k2)) (hf : 1 ≤ R.frames) (hl : 28 ≤ R.locals) (hdg : decode cc pc = .ok (.invokestatic 332, 3))
    (kk : ∀ (H1 : Heap) (locs1 : List Loc), Wd E (cpA x k1 k2 N) m g o H1 → va_S (Ah E) s.heap H1 locs1 → W p l e R s mi args below meth c H1 locs1 cells slots Q (F0 mi (pc + 3) ls [])) : W p l e R s mi args below meth c H locs cells slots Q (F0 mi pc ls [.int (Int32.ofNat N), .int 0, .ref (eh E + k2), .int 0, .ref (eh E + k1)]) := by
  have hn : (Int32.ofNat N).toNatClampNeg = N := nI_clamp (by omega)
  have hz : (0 : Int32).toNatClampNeg = 0 := by decide
  refine va_copyi (D := eD E) (cl := vwCl) (tys := tyE E) (ws := wl E x m g o) (A := Ah E) (H0 := s.heap) (c0 := eI E) (c1 := eI E) (n0 := N) (n1 := N) (f := x k1) (g := x k2) (ty := .int) hx hb hml hown (hB _ q_185) (hB _ q_187) (hB _ q_186) (hB _ q_65) hK.1 (wl_P hW) wl_D hS k1 k2 0 0 (wl_get (by omega) (hc1 x)) (wl_get (by omega) (hc2 x)) rfl rfl rfl (by decide) (by decide) (nI_pos (by omega)) (by rw [hn, hz]; omega) (by rw [hn, hz]; omega) (fun _ _ => rfl) hf (by have hw : nativeFrameWords "java/lang/System" "arraycopy" 5 + 11 ≤ 28 := (by decide); show 0 + _ ≤ _; omega) hdg (fun H1 locs1 hP hD hS1 => ?_)
  rw [hn, hz] at hP
  exact kk H1 locs1 (wl_up (k := k2) (by omega) hP (by rw [hc2]; unfold cpA; rw [if_pos rfl]) cellV_cp) hS1
end BS
set_option maxRecDepth 100000 in
set_option maxHeartbeats 4000000 in
theorem p_X4_copyAll (l : Launch) (E : TE) {k1 k2 N : Nat} (hN : N < 65) (h1 : k1 < 211) (h2 : k2 < 211) {m : XS} {g o : Int64} (hc1 : ∀ x : XS, cellV E x m g o k1 = ar E N (x k1)) (hc2 : ∀ x : XS, cellV E x m g o k2 = ar E N (x k2)) (x : XS) : MG l E yX4_copyAll cX4_copyAll 2 none 2 [rf E k1, rf E k2] (Wd E x m g o) (Wd E (cpA x k1 k2 N) m g o) none := by
  refine m_in (by decide) (Nat.le_of_ble_eq_true rfl) ?_
  intro p e s mi args below meth c H ls hx hb hr hlk hml hown hB hK hW hS hl
  have hl : lv_has ls 2 [(0, rf E k1), (1, rf E k2)] := hl
  refine lv_aload_n hx hb dX4_copyAll_0 rfl (lv_at hl 0 rfl) ?_
  refine lv_iconst (v := 0) hx hb dX4_copyAll_1 (by decide) ?_
  refine lv_aload_n hx hb dX4_copyAll_2 rfl (lv_at hl 1 rfl) ?_
  refine lv_iconst (v := 0) hx hb dX4_copyAll_3 (by decide) ?_
  refine lv_aload_n hx hb dX4_copyAll_4 rfl (lv_at hl 0 rfl) ?_
  refine r_alen hx hb hK hW (by omega) (hc1 x) rfl dX4_copyAll_5 ?_
  refine lv_aload_n hx hb dX4_copyAll_6 rfl (lv_at hl 1 rfl) ?_
  refine r_alen hx hb hK hW (by omega) (hc2 x) rfl dX4_copyAll_7 ?_
  refine va_mmin hx hb (hml.trans hl.1.symm) hown (hB _ q_182) (hB _ q_183) (hB _ q_64) (hB _ q_184) (Nat.le_of_ble_eq_true rfl) (Nat.le_of_ble_eq_true rfl) (Nat.le_refl 0) (Nat.le_refl 0) dX4_copyAll_8 ?_
  refine lv_nm (v := Int32.ofNat N) (by split <;> rfl) ?_
  refine r_copy hx hb (hml.trans hl.1.symm) hown hB hK hW hS hN h1 h2 hc1 hc2 (Nat.le_of_ble_eq_true rfl) (Nat.le_of_ble_eq_true rfl) dX4_copyAll_11 (fun H locs hW hS => ?_)
  exact e_v hx hb hr hlk hW hS dX4_copyAll_14
def f_X4_savedAt (a0 : Int32) : Option Nat := (f_X4_isWithin a0 0 5).bind fun v => if (v = 0 : Prop) then none else if a0 < 0 ∨ 6 ≤ a0.toNatClampNeg then none else some (55 + 26 * a0.toNatClampNeg)
theorem f_X4_savedAt_B {a0 : Int32} {w : Nat} (hf : f_X4_savedAt a0 = some w) : IsB w := by
  unfold f_X4_savedAt at hf
  obtain ⟨v, -, hf⟩ := ob2 hf
  split at hf
  · cases hf
  · split at hf
    · cases hf
    · rename_i h
      cases hf
      exact Or.inr (Or.inr ⟨_, Nat.not_le.mp (fun q => h (Or.inr q)), rfl⟩)
set_option maxRecDepth 100000 in
set_option maxHeartbeats 4000000 in
theorem p_X4_savedAt (l : Launch) (E : TE) (x m : XS) (g o : Int64) {a0 : Int32} {r : Nat} (hf : f_X4_savedAt a0 = some r) : MG l E yX4_savedAt cX4_savedAt 2 (some (.object "AmendsLedger$State")) 1 [rf E 0, .int a0] (Wd E x m g o) (Wd E x m g o) (some (.ref (eh E + r))) := by
  unfold f_X4_savedAt at hf
  refine m_in (by decide) (Nat.le_of_ble_eq_true rfl) ?_
  intro p e s mi args below meth c H ls hx hb hr hlk hml hown hB hK hW hS hl
  have hl : lv_has ls 2 [(0, rf E 0), (1, .int a0)] := hl
  refine lv_iload_n hx hb dX4_savedAt_0 rfl (lv_at hl 1 rfl) ?_
  refine lv_iconst (v := 0) hx hb dX4_savedAt_1 (by decide) ?_
  refine lv_iconst (v := 5) hx hb dX4_savedAt_2 (by decide) ?_
  obtain ⟨v3, e3, hf⟩ := ob2 hf
  refine c_S (As := [.int a0, .int 0, .int 5]) (st1 := [.int v3]) (rest := []) (p_X4_isWithin l E x m g o e3) (kc_X4_35 hB ⟨Nat.le_of_ble_eq_true rfl, Nat.le_of_ble_eq_true rfl⟩) hx hb hml hown hB hK hW hS ⟨Nat.le_refl 0, Nat.le_refl 0⟩ rfl hl.1 rfl (Nat.le_of_ble_eq_true rfl) rfl dX4_savedAt_3 (fun H locs hW hS => ?_)
  refine lv_if_eq (tgt := 18) hx hb dX4_savedAt_6 (by decide) (fun c4 => ?_) (fun c4 => ?_)
  · rw [if_pos c4] at hf; cases hf
  · rw [if_neg c4] at hf
    by_cases hi : a0 < 0 ∨ 6 ≤ a0.toNatClampNeg
    · rw [if_pos hi] at hf; cases hf
    · rw [if_neg hi] at hf
      cases hf
      refine lv_aload_n hx hb dX4_savedAt_9 rfl (lv_at hl 0 rfl) ?_
      refine gf_X4_19 hx hb hB hK hown hW dX4_savedAt_10 ?_
      refine lv_iload_n hx hb dX4_savedAt_13 rfl (lv_at hl 1 rfl) ?_
      refine va_aldq (D := eD E) (cl := vwCl) (tys := tyE E) (ws := [(eh E + 53, .inl (eS E, 6, .inr (.inr (.inr (.inr (fun i => some (eh E + (55 + 26 * i))))))))]) (C := "AmendsLedger$State") hx hb hK.1 (hW.at (by decide) cX_53) 0 1 rfl rfl hi dX4_savedAt_14 ?_
      refine lv_goto (tgt := 19) hx hb dX4_savedAt_15 (by decide) ?_
      exact e_a hx hb hr hlk hW hS dX4_savedAt_19

def f_X4_isKind (a0 : Int32) : Option (Int32) :=
    if (a0 < 0 : Prop) then
      some 0
    else
      (if (4 ≤ a0 : Prop) then
        some 0
      else
        some 1)
set_option maxRecDepth 100000 in
set_option maxHeartbeats 4000000 in
theorem p_X4_isKind (l : Launch) (E : TE) (x m : XS) (g o : Int64) {a0 : Int32} {r : Int32} (hf : f_X4_isKind a0 = some r) : MG l E yX4_isKind cX4_isKind 1 (some .boolean) 0 [.int a0] (Wd E x m g o) (Wd E x m g o) (some (.int r)) := by
  unfold f_X4_isKind at hf
  refine m_in (by decide) (Nat.le_of_ble_eq_true rfl) ?_
  intro p e s mi args below meth c H ls hx hb hr hlk hml hown hB hK hW hS hl
  have hl : lv_has ls 1 [(0, .int a0)] := hl
  refine lv_iload_n hx hb dX4_isKind_0 rfl (lv_at hl 0 rfl) ?_
  refine lv_if_lt (tgt := 13) hx hb dX4_isKind_1 (by decide) (fun c1 => ?_) (fun c1 => ?_)
  · rw [if_pos c1] at hf
    refine lv_iconst (v := 0) hx hb dX4_isKind_13 (by decide) ?_
    cases hf
    exact e_z hx hb hr hlk (Or.inl rfl) hW hS dX4_isKind_14
  · rw [if_neg c1] at hf
    refine lv_iload_n hx hb dX4_isKind_4 rfl (lv_at hl 0 rfl) ?_
    refine lv_iconst (v := 4) hx hb dX4_isKind_5 (by decide) ?_
    refine lv_icmp_ge (tgt := 13) hx hb dX4_isKind_6 (by decide) (fun c6 => ?_) (fun c6 => ?_)
    · rw [if_pos c6] at hf
      refine lv_iconst (v := 0) hx hb dX4_isKind_13 (by decide) ?_
      cases hf
      exact e_z hx hb hr hlk (Or.inl rfl) hW hS dX4_isKind_14
    · rw [if_neg c6] at hf
      refine lv_iconst (v := 1) hx hb dX4_isKind_9 (by decide) ?_
      refine lv_goto (tgt := 14) hx hb dX4_isKind_10 (by decide) ?_
      cases hf
      exact e_z hx hb hr hlk (Or.inr rfl) hW hS dX4_isKind_14
def f_X4_isGroup (a0 : Int32) : Option (Int32) :=
    if (a0 < 0 : Prop) then
      some 0
    else
      (if (3 ≤ a0 : Prop) then
        some 0
      else
        some 1)
set_option maxRecDepth 100000 in
set_option maxHeartbeats 4000000 in
theorem p_X4_isGroup (l : Launch) (E : TE) (x m : XS) (g o : Int64) {a0 : Int32} {r : Int32} (hf : f_X4_isGroup a0 = some r) : MG l E yX4_isGroup cX4_isGroup 1 (some .boolean) 0 [.int a0] (Wd E x m g o) (Wd E x m g o) (some (.int r)) := by
  unfold f_X4_isGroup at hf
  refine m_in (by decide) (Nat.le_of_ble_eq_true rfl) ?_
  intro p e s mi args below meth c H ls hx hb hr hlk hml hown hB hK hW hS hl
  have hl : lv_has ls 1 [(0, .int a0)] := hl
  refine lv_iload_n hx hb dX4_isGroup_0 rfl (lv_at hl 0 rfl) ?_
  refine lv_if_lt (tgt := 13) hx hb dX4_isGroup_1 (by decide) (fun c1 => ?_) (fun c1 => ?_)
  · rw [if_pos c1] at hf
    refine lv_iconst (v := 0) hx hb dX4_isGroup_13 (by decide) ?_
    cases hf
    exact e_z hx hb hr hlk (Or.inl rfl) hW hS dX4_isGroup_14
  · rw [if_neg c1] at hf
    refine lv_iload_n hx hb dX4_isGroup_4 rfl (lv_at hl 0 rfl) ?_
    refine lv_iconst (v := 3) hx hb dX4_isGroup_5 (by decide) ?_
    refine lv_icmp_ge (tgt := 13) hx hb dX4_isGroup_6 (by decide) (fun c6 => ?_) (fun c6 => ?_)
    · rw [if_pos c6] at hf
      refine lv_iconst (v := 0) hx hb dX4_isGroup_13 (by decide) ?_
      cases hf
      exact e_z hx hb hr hlk (Or.inl rfl) hW hS dX4_isGroup_14
    · rw [if_neg c6] at hf
      refine lv_iconst (v := 1) hx hb dX4_isGroup_9 (by decide) ?_
      refine lv_goto (tgt := 14) hx hb dX4_isGroup_10 (by decide) ?_
      cases hf
      exact e_z hx hb hr hlk (Or.inr rfl) hW hS dX4_isGroup_14
def f_X4_isSetting (a0 : Int32) : Option (Int32) :=
    if (a0 < 0 : Prop) then
      some 0
    else
      (if (3 ≤ a0 : Prop) then
        some 0
      else
        some 1)
set_option maxRecDepth 100000 in
set_option maxHeartbeats 4000000 in
theorem p_X4_isSetting (l : Launch) (E : TE) (x m : XS) (g o : Int64) {a0 : Int32} {r : Int32} (hf : f_X4_isSetting a0 = some r) : MG l E yX4_isSetting cX4_isSetting 1 (some .boolean) 0 [.int a0] (Wd E x m g o) (Wd E x m g o) (some (.int r)) := by
  unfold f_X4_isSetting at hf
  refine m_in (by decide) (Nat.le_of_ble_eq_true rfl) ?_
  intro p e s mi args below meth c H ls hx hb hr hlk hml hown hB hK hW hS hl
  have hl : lv_has ls 1 [(0, .int a0)] := hl
  refine lv_iload_n hx hb dX4_isSetting_0 rfl (lv_at hl 0 rfl) ?_
  refine lv_if_lt (tgt := 13) hx hb dX4_isSetting_1 (by decide) (fun c1 => ?_) (fun c1 => ?_)
  · rw [if_pos c1] at hf
    refine lv_iconst (v := 0) hx hb dX4_isSetting_13 (by decide) ?_
    cases hf
    exact e_z hx hb hr hlk (Or.inl rfl) hW hS dX4_isSetting_14
  · rw [if_neg c1] at hf
    refine lv_iload_n hx hb dX4_isSetting_4 rfl (lv_at hl 0 rfl) ?_
    refine lv_iconst (v := 3) hx hb dX4_isSetting_5 (by decide) ?_
    refine lv_icmp_ge (tgt := 13) hx hb dX4_isSetting_6 (by decide) (fun c6 => ?_) (fun c6 => ?_)
    · rw [if_pos c6] at hf
      refine lv_iconst (v := 0) hx hb dX4_isSetting_13 (by decide) ?_
      cases hf
      exact e_z hx hb hr hlk (Or.inl rfl) hW hS dX4_isSetting_14
    · rw [if_neg c6] at hf
      refine lv_iconst (v := 1) hx hb dX4_isSetting_9 (by decide) ?_
      refine lv_goto (tgt := 14) hx hb dX4_isSetting_10 (by decide) ?_
      cases hf
      exact e_z hx hb hr hlk (Or.inr rfl) hW hS dX4_isSetting_14
def f_X4_isCustomer (a0 : Int32) : Option (Int32) :=
    if (a0 < 0 : Prop) then
      some 0
    else
      (if (10 ≤ a0 : Prop) then
        some 0
      else
        some 1)
set_option maxRecDepth 100000 in
set_option maxHeartbeats 4000000 in
theorem p_X4_isCustomer (l : Launch) (E : TE) (x m : XS) (g o : Int64) {a0 : Int32} {r : Int32} (hf : f_X4_isCustomer a0 = some r) : MG l E yX4_isCustomer cX4_isCustomer 1 (some .boolean) 0 [.int a0] (Wd E x m g o) (Wd E x m g o) (some (.int r)) := by
  unfold f_X4_isCustomer at hf
  refine m_in (by decide) (Nat.le_of_ble_eq_true rfl) ?_
  intro p e s mi args below meth c H ls hx hb hr hlk hml hown hB hK hW hS hl
  have hl : lv_has ls 1 [(0, .int a0)] := hl
  refine lv_iload_n hx hb dX4_isCustomer_0 rfl (lv_at hl 0 rfl) ?_
  refine lv_if_lt (tgt := 14) hx hb dX4_isCustomer_1 (by decide) (fun c1 => ?_) (fun c1 => ?_)
  · rw [if_pos c1] at hf
    refine lv_iconst (v := 0) hx hb dX4_isCustomer_14 (by decide) ?_
    cases hf
    exact e_z hx hb hr hlk (Or.inl rfl) hW hS dX4_isCustomer_15
  · rw [if_neg c1] at hf
    refine lv_iload_n hx hb dX4_isCustomer_4 rfl (lv_at hl 0 rfl) ?_
    refine lv_bipush (v := 10) hx hb dX4_isCustomer_5 (by decide) ?_
    refine lv_icmp_ge (tgt := 14) hx hb dX4_isCustomer_7 (by decide) (fun c7 => ?_) (fun c7 => ?_)
    · rw [if_pos c7] at hf
      refine lv_iconst (v := 0) hx hb dX4_isCustomer_14 (by decide) ?_
      cases hf
      exact e_z hx hb hr hlk (Or.inl rfl) hW hS dX4_isCustomer_15
    · rw [if_neg c7] at hf
      refine lv_iconst (v := 1) hx hb dX4_isCustomer_10 (by decide) ?_
      refine lv_goto (tgt := 15) hx hb dX4_isCustomer_11 (by decide) ?_
      cases hf
      exact e_z hx hb hr hlk (Or.inr rfl) hW hS dX4_isCustomer_15
def f_X4_requireIndex (a0 : Int32) : Option (Unit) :=
    if (a0 = 0 : Prop) then
      none
    else
      some ()
set_option maxRecDepth 100000 in
set_option maxHeartbeats 4000000 in
theorem p_X4_requireIndex (l : Launch) (E : TE) (x m : XS) (g o : Int64) {a0 : Int32} (hf : f_X4_requireIndex a0 = some ()) : MG l E yX4_requireIndex cX4_requireIndex 1 none 1 [.int a0] (Wd E x m g o) (Wd E x m g o) none := by
  unfold f_X4_requireIndex at hf
  refine m_in (by decide) (Nat.le_of_ble_eq_true rfl) ?_
  intro p e s mi args below meth c H ls hx hb hr hlk hml hown hB hK hW hS hl
  have hl : lv_has ls 1 [(0, .int a0)] := hl
  refine lv_iload_n hx hb dX4_requireIndex_0 rfl (lv_at hl 0 rfl) ?_
  refine lv_if_ne (tgt := 12) hx hb dX4_requireIndex_1 (by decide) (fun c1 => ?_) (fun c1 => ?_)
  · rw [if_neg c1] at hf
    cases hf
    exact e_v hx hb hr hlk hW hS dX4_requireIndex_12
  · rw [if_pos c1] at hf
    cases hf
def f_X4_requireArgument (a0 : Int32) : Option (Unit) :=
    if (a0 = 0 : Prop) then
      none
    else
      some ()
set_option maxRecDepth 100000 in
set_option maxHeartbeats 4000000 in
theorem p_X4_requireArgument (l : Launch) (E : TE) (x m : XS) (g o : Int64) {a0 : Int32} (hf : f_X4_requireArgument a0 = some ()) : MG l E yX4_requireArgument cX4_requireArgument 1 none 1 [.int a0] (Wd E x m g o) (Wd E x m g o) none := by
  unfold f_X4_requireArgument at hf
  refine m_in (by decide) (Nat.le_of_ble_eq_true rfl) ?_
  intro p e s mi args below meth c H ls hx hb hr hlk hml hown hB hK hW hS hl
  have hl : lv_has ls 1 [(0, .int a0)] := hl
  refine lv_iload_n hx hb dX4_requireArgument_0 rfl (lv_at hl 0 rfl) ?_
  refine lv_if_ne (tgt := 12) hx hb dX4_requireArgument_1 (by decide) (fun c1 => ?_) (fun c1 => ?_)
  · rw [if_neg c1] at hf
    cases hf
    exact e_v hx hb hr hlk hW hS dX4_requireArgument_12
  · rw [if_pos c1] at hf
    cases hf
def f_X4_requireState (a0 : Int32) : Option (Unit) :=
    if (a0 = 0 : Prop) then
      none
    else
      some ()
set_option maxRecDepth 100000 in
set_option maxHeartbeats 4000000 in
theorem p_X4_requireState (l : Launch) (E : TE) (x m : XS) (g o : Int64) {a0 : Int32} (hf : f_X4_requireState a0 = some ()) : MG l E yX4_requireState cX4_requireState 1 none 1 [.int a0] (Wd E x m g o) (Wd E x m g o) none := by
  unfold f_X4_requireState at hf
  refine m_in (by decide) (Nat.le_of_ble_eq_true rfl) ?_
  intro p e s mi args below meth c H ls hx hb hr hlk hml hown hB hK hW hS hl
  have hl : lv_has ls 1 [(0, .int a0)] := hl
  refine lv_iload_n hx hb dX4_requireState_0 rfl (lv_at hl 0 rfl) ?_
  refine lv_if_ne (tgt := 12) hx hb dX4_requireState_1 (by decide) (fun c1 => ?_) (fun c1 => ?_)
  · rw [if_neg c1] at hf
    cases hf
    exact e_v hx hb hr hlk hW hS dX4_requireState_12
  · rw [if_pos c1] at hf
    cases hf
def f_JD_isNaN (a0 : UInt64) : Option (Int32) :=
    if ((Op.cmpValue (FP.dcmp a0 a0) .l) = 0 : Prop) then
      some 0
    else
      some 1
set_option maxRecDepth 100000 in
set_option maxHeartbeats 4000000 in
theorem p_JD_isNaN (l : Launch) (E : TE) (x m : XS) (g o : Int64) {a0 : UInt64} {r : Int32} (hf : f_JD_isNaN a0 = some r) : MG l E yJD_isNaN cJD_isNaN 2 (some .boolean) 0 [.double a0] (Wd E x m g o) (Wd E x m g o) (some (.int r)) := by
  unfold f_JD_isNaN at hf
  refine m_in (by decide) (Nat.le_of_ble_eq_true rfl) ?_
  intro p e s mi args below meth c H ls hx hb hr hlk hml hown hB hK hW hS hl
  have hl : lv_has ls 2 [(0, .double a0)] := hl
  refine lv_dload_n hx hb dJD_isNaN_0 rfl (lv_at hl 0 rfl) ?_
  refine lv_dload_n hx hb dJD_isNaN_1 rfl (lv_at hl 0 rfl) ?_
  refine lv_dcmp hx hb dJD_isNaN_2 ?_
  refine lv_if_eq (tgt := 10) hx hb dJD_isNaN_3 (by decide) (fun c3 => ?_) (fun c3 => ?_)
  · rw [if_pos c3] at hf
    refine lv_iconst (v := 0) hx hb dJD_isNaN_10 (by decide) ?_
    cases hf
    exact e_z hx hb hr hlk (Or.inl rfl) hW hS dJD_isNaN_11
  · rw [if_neg c3] at hf
    refine lv_iconst (v := 1) hx hb dJD_isNaN_6 (by decide) ?_
    refine lv_goto (tgt := 11) hx hb dJD_isNaN_7 (by decide) ?_
    cases hf
    exact e_z hx hb hr hlk (Or.inr rfl) hW hS dJD_isNaN_11
def f_JD_doubleToLongBits (a0 : UInt64) : Option (Int64) :=
    (f_JD_isNaN a0).bind fun v1 =>
    if (v1 = 0 : Prop) then
      some ((a0 : UInt64).toInt64)
    else
      some 9221120237041090560
set_option maxRecDepth 100000 in
set_option maxHeartbeats 4000000 in
theorem p_JD_doubleToLongBits (l : Launch) (E : TE) (x m : XS) (g o : Int64) {a0 : UInt64} {r : Int64} (hf : f_JD_doubleToLongBits a0 = some r) : MG l E yJD_doubleToLongBits cJD_doubleToLongBits 2 (some .long) 1 [.double a0] (Wd E x m g o) (Wd E x m g o) (some (.long r)) := by
  unfold f_JD_doubleToLongBits at hf
  refine m_in (by decide) (Nat.le_of_ble_eq_true rfl) ?_
  intro p e s mi args below meth c H ls hx hb hr hlk hml hown hB hK hW hS hl
  have hl : lv_has ls 2 [(0, .double a0)] := hl
  refine lv_dload_n hx hb dJD_doubleToLongBits_0 rfl (lv_at hl 0 rfl) ?_
  obtain ⟨v1, e1, hf⟩ := ob2 hf
  refine c_S (As := [.double a0]) (st1 := [.int v1]) (rest := []) (p_JD_isNaN l E x m g o e1) (kc_JD_122 hB ⟨Nat.le_of_ble_eq_true rfl, Nat.le_of_ble_eq_true rfl⟩) hx hb hml hown hB hK hW hS ⟨Nat.le_refl 0, Nat.le_refl 0⟩ rfl hl.1 rfl (Nat.le_of_ble_eq_true rfl) rfl dJD_doubleToLongBits_1 (fun H locs hW hS => ?_)
  refine lv_if_ne (tgt := 12) hx hb dJD_doubleToLongBits_4 (by decide) (fun c4 => ?_) (fun c4 => ?_)
  · rw [if_neg c4] at hf
    refine lv_ldc2 (v := 9221120237041090560) hx hb hown (hB _ q_1277) dJD_doubleToLongBits_12 ?_
    cases hf
    exact e_l hx hb hr hlk hW hS dJD_doubleToLongBits_15
  · rw [if_pos c4] at hf
    refine lv_dload_n hx hb dJD_doubleToLongBits_7 rfl (lv_at hl 0 rfl) ?_
    refine vn_d2l hx hb (hml.trans hl.1.symm) hown (hB _ q_1274) (hB _ q_1276) (hB _ q_1275) (hB _ q_74) (Nat.le_of_ble_eq_true rfl) (Nat.le_of_ble_eq_true rfl) dJD_doubleToLongBits_8 ?_
    cases hf
    exact e_l hx hb hr hlk hW hS dJD_doubleToLongBits_11
theorem dX4_isValueOf_0 : decode cX4_isValueOf 0 = .ok (.iload_n 0, 1) := by decide +kernel
theorem dX4_isValueOf_1 : decode cX4_isValueOf 1 = .ok (.invokestatic 76, 3) := by decide +kernel
theorem dX4_isValueOf_4 : decode cX4_isValueOf 4 = .ok (.ifCond .eq 24, 3) := by decide +kernel
theorem dX4_isValueOf_7 : decode cX4_isValueOf 7 = .ok (.iload_n 1, 1) := by decide +kernel
theorem dX4_isValueOf_8 : decode cX4_isValueOf 8 = .ok (.getstatic 321, 3) := by decide +kernel
theorem dX4_isValueOf_11 : decode cX4_isValueOf 11 = .ok (.iload_n 0, 1) := by decide +kernel
theorem dX4_isValueOf_12 : decode cX4_isValueOf 12 = .ok (.iaload, 1) := by decide +kernel
theorem dX4_isValueOf_13 : decode cX4_isValueOf 13 = .ok (.getstatic 324, 3) := by decide +kernel
theorem dX4_isValueOf_16 : decode cX4_isValueOf 16 = .ok (.iload_n 0, 1) := by decide +kernel
theorem dX4_isValueOf_17 : decode cX4_isValueOf 17 = .ok (.iaload, 1) := by decide +kernel
theorem dX4_isValueOf_18 : decode cX4_isValueOf 18 = .ok (.invokestatic 35, 3) := by decide +kernel
theorem dX4_isValueOf_21 : decode cX4_isValueOf 21 = .ok (.ifCond .eq 7, 3) := by decide +kernel
theorem dX4_isValueOf_24 : decode cX4_isValueOf 24 = .ok (.iconst 1, 1) := by decide +kernel
theorem dX4_isValueOf_25 : decode cX4_isValueOf 25 = .ok (.goto 4, 3) := by decide +kernel
theorem dX4_isValueOf_28 : decode cX4_isValueOf 28 = .ok (.iconst 0, 1) := by decide +kernel
theorem dX4_isValueOf_29 : decode cX4_isValueOf 29 = .ok (.ireturn, 1) := by decide +kernel
def f_X4_isValueOf (x : XS) (a0 : Int32) (a1 : Int32) : Option (Int32) :=
    (f_X4_isSetting a0).bind fun v1 =>
    if (v1 = 0 : Prop) then
      some 0
    else
      ((aget 3 fM a0).bind fun v12 =>
      (aget 3 fG a0).bind fun v17 =>
      (f_X4_isWithin a1 v12 v17).bind fun v18 =>
      if (v18 = 0 : Prop) then
        some 0
      else
        some 1)
set_option maxRecDepth 100000 in
set_option maxHeartbeats 4000000 in
theorem p_X4_isValueOf (l : Launch) (E : TE) (x m : XS) (g o : Int64) {a0 : Int32} {a1 : Int32} {r : Int32} (hf : f_X4_isValueOf x a0 a1 = some r) : MG l E yX4_isValueOf cX4_isValueOf 2 (some .boolean) 1 [.int a0, .int a1] (Wd E x m g o) (Wd E x m g o) (some (.int r)) := by
  unfold f_X4_isValueOf at hf
  refine m_in (by decide) (Nat.le_of_ble_eq_true rfl) ?_
  intro p e s mi args below meth c H ls hx hb hr hlk hml hown hB hK hW hS hl
  have hl : lv_has ls 2 [(0, .int a0), (1, .int a1)] := hl
  refine lv_iload_n hx hb dX4_isValueOf_0 rfl (lv_at hl 0 rfl) ?_
  obtain ⟨v1, e1, hf⟩ := ob2 hf
  refine c_S (As := [.int a0]) (st1 := [.int v1]) (rest := []) (p_X4_isSetting l E x m g o e1) (kc_X4_76 hB ⟨Nat.le_of_ble_eq_true rfl, Nat.le_of_ble_eq_true rfl⟩) hx hb hml hown hB hK hW hS ⟨Nat.le_refl 0, Nat.le_refl 0⟩ rfl hl.1 rfl (Nat.le_of_ble_eq_true rfl) rfl dX4_isValueOf_1 (fun H locs hW hS => ?_)
  refine lv_if_eq (tgt := 28) hx hb dX4_isValueOf_4 (by decide) (fun c4 => ?_) (fun c4 => ?_)
  · rw [if_pos c4] at hf
    refine lv_iconst (v := 0) hx hb dX4_isValueOf_28 (by decide) ?_
    cases hf
    exact e_z hx hb hr hlk (Or.inl rfl) hW hS dX4_isValueOf_29
  · rw [if_neg c4] at hf
    refine lv_iload_n hx hb dX4_isValueOf_7 rfl (lv_at hl 1 rfl) ?_
    refine va_gets hx hb hK.2.2.1.2.1.1 hS hown (hB _ q_776) (fun _ h9 => h9) dX4_isValueOf_8 ?_
    refine lv_iload_n hx hb dX4_isValueOf_11 rfl (lv_at hl 0 rfl) ?_
    obtain ⟨v12, e12, hf⟩ := ob2 hf
    refine r_sald hx hb hK.2.2.1.2.1.2 hS e12 dX4_isValueOf_12 ?_
    refine va_gets hx hb hK.2.2.1.2.2.1 hS hown (hB _ q_778) (fun _ h9 => h9) dX4_isValueOf_13 ?_
    refine lv_iload_n hx hb dX4_isValueOf_16 rfl (lv_at hl 0 rfl) ?_
    obtain ⟨v17, e17, hf⟩ := ob2 hf
    refine r_sald hx hb hK.2.2.1.2.2.2 hS e17 dX4_isValueOf_17 ?_
    obtain ⟨v18, e18, hf⟩ := ob2 hf
    refine c_S (As := [.int a1, .int v12, .int v17]) (st1 := [.int v18]) (rest := []) (p_X4_isWithin l E x m g o e18) (kc_X4_35 hB ⟨Nat.le_of_ble_eq_true rfl, Nat.le_of_ble_eq_true rfl⟩) hx hb hml hown hB hK hW hS ⟨Nat.le_refl 0, Nat.le_refl 0⟩ rfl hl.1 rfl (Nat.le_of_ble_eq_true rfl) rfl dX4_isValueOf_18 (fun H locs hW hS => ?_)
    refine lv_if_eq (tgt := 28) hx hb dX4_isValueOf_21 (by decide) (fun c21 => ?_) (fun c21 => ?_)
    · rw [if_pos c21] at hf
      refine lv_iconst (v := 0) hx hb dX4_isValueOf_28 (by decide) ?_
      cases hf
      exact e_z hx hb hr hlk (Or.inl rfl) hW hS dX4_isValueOf_29
    · rw [if_neg c21] at hf
      refine lv_iconst (v := 1) hx hb dX4_isValueOf_24 (by decide) ?_
      refine lv_goto (tgt := 29) hx hb dX4_isValueOf_25 (by decide) ?_
      cases hf
      exact e_z hx hb hr hlk (Or.inr rfl) hW hS dX4_isValueOf_29
end
section
theorem dX1_sizeOf_0 : decode cX1_sizeOf 0 = .ok (.iload_n 1, 1) := by decide +kernel
theorem dX1_sizeOf_1 : decode cX1_sizeOf 1 = .ok (.invokestatic 31, 3) := by decide +kernel
theorem dX1_sizeOf_4 : decode cX1_sizeOf 4 = .ok (.ifCond .eq 12, 3) := by decide +kernel
theorem dX1_sizeOf_7 : decode cX1_sizeOf 7 = .ok (.aload_n 0, 1) := by decide +kernel
theorem dX1_sizeOf_8 : decode cX1_sizeOf 8 = .ok (.getfield 9, 3) := by decide +kernel
theorem dX1_sizeOf_11 : decode cX1_sizeOf 11 = .ok (.iload_n 1, 1) := by decide +kernel
theorem dX1_sizeOf_12 : decode cX1_sizeOf 12 = .ok (.iaload, 1) := by decide +kernel
theorem dX1_sizeOf_13 : decode cX1_sizeOf 13 = .ok (.goto 4, 3) := by decide +kernel
theorem dX1_sizeOf_16 : decode cX1_sizeOf 16 = .ok (.iconst 0, 1) := by decide +kernel
theorem dX1_sizeOf_17 : decode cX1_sizeOf 17 = .ok (.ireturn, 1) := by decide +kernel
theorem dX1_copyFrom_0 : decode cX1_copyFrom 0 = .ok (.aload_n 1, 1) := by decide +kernel
theorem dX1_copyFrom_1 : decode cX1_copyFrom 1 = .ok (.getfield 9, 3) := by decide +kernel
theorem dX1_copyFrom_4 : decode cX1_copyFrom 4 = .ok (.aload_n 0, 1) := by decide +kernel
theorem dX1_copyFrom_5 : decode cX1_copyFrom 5 = .ok (.getfield 9, 3) := by decide +kernel
theorem dX1_copyFrom_8 : decode cX1_copyFrom 8 = .ok (.invokestatic 27, 3) := by decide +kernel
theorem dX1_copyFrom_11 : decode cX1_copyFrom 11 = .ok (.aload_n 1, 1) := by decide +kernel
theorem dX1_copyFrom_12 : decode cX1_copyFrom 12 = .ok (.getfield 15, 3) := by decide +kernel
theorem dX1_copyFrom_15 : decode cX1_copyFrom 15 = .ok (.aload_n 0, 1) := by decide +kernel
theorem dX1_copyFrom_16 : decode cX1_copyFrom 16 = .ok (.getfield 15, 3) := by decide +kernel
theorem dX1_copyFrom_19 : decode cX1_copyFrom 19 = .ok (.invokestatic 27, 3) := by decide +kernel
theorem dX1_copyFrom_22 : decode cX1_copyFrom 22 = .ok (.aload_n 1, 1) := by decide +kernel
theorem dX1_copyFrom_23 : decode cX1_copyFrom 23 = .ok (.getfield 18, 3) := by decide +kernel
theorem dX1_copyFrom_26 : decode cX1_copyFrom 26 = .ok (.aload_n 0, 1) := by decide +kernel
theorem dX1_copyFrom_27 : decode cX1_copyFrom 27 = .ok (.getfield 18, 3) := by decide +kernel
theorem dX1_copyFrom_30 : decode cX1_copyFrom 30 = .ok (.invokestatic 27, 3) := by decide +kernel
theorem dX1_copyFrom_33 : decode cX1_copyFrom 33 = .ok (.aload_n 1, 1) := by decide +kernel
theorem dX1_copyFrom_34 : decode cX1_copyFrom 34 = .ok (.getfield 21, 3) := by decide +kernel
theorem dX1_copyFrom_37 : decode cX1_copyFrom 37 = .ok (.aload_n 0, 1) := by decide +kernel
theorem dX1_copyFrom_38 : decode cX1_copyFrom 38 = .ok (.getfield 21, 3) := by decide +kernel
theorem dX1_copyFrom_41 : decode cX1_copyFrom 41 = .ok (.invokestatic 27, 3) := by decide +kernel
theorem dX1_copyFrom_44 : decode cX1_copyFrom 44 = .ok (.aload_n 1, 1) := by decide +kernel
theorem dX1_copyFrom_45 : decode cX1_copyFrom 45 = .ok (.getfield 24, 3) := by decide +kernel
theorem dX1_copyFrom_48 : decode cX1_copyFrom 48 = .ok (.aload_n 0, 1) := by decide +kernel
theorem dX1_copyFrom_49 : decode cX1_copyFrom 49 = .ok (.getfield 24, 3) := by decide +kernel
theorem dX1_copyFrom_52 : decode cX1_copyFrom 52 = .ok (.invokestatic 27, 3) := by decide +kernel
theorem dX1_copyFrom_55 : decode cX1_copyFrom 55 = .ok (.return_, 1) := by decide +kernel
theorem dX0_copyFrom_0 : decode cX0_copyFrom 0 = .ok (.aload_n 0, 1) := by decide +kernel
theorem dX0_copyFrom_1 : decode cX0_copyFrom 1 = .ok (.aload_n 1, 1) := by decide +kernel
theorem dX0_copyFrom_2 : decode cX0_copyFrom 2 = .ok (.getfield 39, 3) := by decide +kernel
theorem dX0_copyFrom_5 : decode cX0_copyFrom 5 = .ok (.putfield 39, 3) := by decide +kernel
theorem dX0_copyFrom_8 : decode cX0_copyFrom 8 = .ok (.aload_n 1, 1) := by decide +kernel
theorem dX0_copyFrom_9 : decode cX0_copyFrom 9 = .ok (.getfield 9, 3) := by decide +kernel
theorem dX0_copyFrom_12 : decode cX0_copyFrom 12 = .ok (.aload_n 0, 1) := by decide +kernel
theorem dX0_copyFrom_13 : decode cX0_copyFrom 13 = .ok (.getfield 9, 3) := by decide +kernel
theorem dX0_copyFrom_16 : decode cX0_copyFrom 16 = .ok (.invokestatic 43, 3) := by decide +kernel
theorem dX0_copyFrom_19 : decode cX0_copyFrom 19 = .ok (.aload_n 1, 1) := by decide +kernel
theorem dX0_copyFrom_20 : decode cX0_copyFrom 20 = .ok (.getfield 15, 3) := by decide +kernel
theorem dX0_copyFrom_23 : decode cX0_copyFrom 23 = .ok (.aload_n 0, 1) := by decide +kernel
theorem dX0_copyFrom_24 : decode cX0_copyFrom 24 = .ok (.getfield 15, 3) := by decide +kernel
theorem dX0_copyFrom_27 : decode cX0_copyFrom 27 = .ok (.invokestatic 43, 3) := by decide +kernel
theorem dX0_copyFrom_30 : decode cX0_copyFrom 30 = .ok (.aload_n 1, 1) := by decide +kernel
theorem dX0_copyFrom_31 : decode cX0_copyFrom 31 = .ok (.getfield 18, 3) := by decide +kernel
theorem dX0_copyFrom_34 : decode cX0_copyFrom 34 = .ok (.aload_n 0, 1) := by decide +kernel
theorem dX0_copyFrom_35 : decode cX0_copyFrom 35 = .ok (.getfield 18, 3) := by decide +kernel
theorem dX0_copyFrom_38 : decode cX0_copyFrom 38 = .ok (.invokestatic 43, 3) := by decide +kernel
theorem dX0_copyFrom_41 : decode cX0_copyFrom 41 = .ok (.aload_n 1, 1) := by decide +kernel
theorem dX0_copyFrom_42 : decode cX0_copyFrom 42 = .ok (.getfield 21, 3) := by decide +kernel
theorem dX0_copyFrom_45 : decode cX0_copyFrom 45 = .ok (.aload_n 0, 1) := by decide +kernel
theorem dX0_copyFrom_46 : decode cX0_copyFrom 46 = .ok (.getfield 21, 3) := by decide +kernel
theorem dX0_copyFrom_49 : decode cX0_copyFrom 49 = .ok (.invokestatic 43, 3) := by decide +kernel
theorem dX0_copyFrom_52 : decode cX0_copyFrom 52 = .ok (.aload_n 1, 1) := by decide +kernel
theorem dX0_copyFrom_53 : decode cX0_copyFrom 53 = .ok (.getfield 24, 3) := by decide +kernel
theorem dX0_copyFrom_56 : decode cX0_copyFrom 56 = .ok (.aload_n 0, 1) := by decide +kernel
theorem dX0_copyFrom_57 : decode cX0_copyFrom 57 = .ok (.getfield 24, 3) := by decide +kernel
theorem dX0_copyFrom_60 : decode cX0_copyFrom 60 = .ok (.invokestatic 43, 3) := by decide +kernel
theorem dX0_copyFrom_63 : decode cX0_copyFrom 63 = .ok (.aload_n 1, 1) := by decide +kernel
theorem dX0_copyFrom_64 : decode cX0_copyFrom 64 = .ok (.getfield 27, 3) := by decide +kernel
theorem dX0_copyFrom_67 : decode cX0_copyFrom 67 = .ok (.aload_n 0, 1) := by decide +kernel
theorem dX0_copyFrom_68 : decode cX0_copyFrom 68 = .ok (.getfield 27, 3) := by decide +kernel
theorem dX0_copyFrom_71 : decode cX0_copyFrom 71 = .ok (.invokestatic 43, 3) := by decide +kernel
theorem dX0_copyFrom_74 : decode cX0_copyFrom 74 = .ok (.aload_n 1, 1) := by decide +kernel
theorem dX0_copyFrom_75 : decode cX0_copyFrom 75 = .ok (.getfield 30, 3) := by decide +kernel
theorem dX0_copyFrom_78 : decode cX0_copyFrom 78 = .ok (.aload_n 0, 1) := by decide +kernel
theorem dX0_copyFrom_79 : decode cX0_copyFrom 79 = .ok (.getfield 30, 3) := by decide +kernel
theorem dX0_copyFrom_82 : decode cX0_copyFrom 82 = .ok (.invokestatic 43, 3) := by decide +kernel
theorem dX0_copyFrom_85 : decode cX0_copyFrom 85 = .ok (.aload_n 1, 1) := by decide +kernel
theorem dX0_copyFrom_86 : decode cX0_copyFrom 86 = .ok (.getfield 33, 3) := by decide +kernel
theorem dX0_copyFrom_89 : decode cX0_copyFrom 89 = .ok (.aload_n 0, 1) := by decide +kernel
theorem dX0_copyFrom_90 : decode cX0_copyFrom 90 = .ok (.getfield 33, 3) := by decide +kernel
theorem dX0_copyFrom_93 : decode cX0_copyFrom 93 = .ok (.invokestatic 43, 3) := by decide +kernel
theorem dX0_copyFrom_96 : decode cX0_copyFrom 96 = .ok (.aload_n 1, 1) := by decide +kernel
theorem dX0_copyFrom_97 : decode cX0_copyFrom 97 = .ok (.getfield 36, 3) := by decide +kernel
theorem dX0_copyFrom_100 : decode cX0_copyFrom 100 = .ok (.aload_n 0, 1) := by decide +kernel
theorem dX0_copyFrom_101 : decode cX0_copyFrom 101 = .ok (.getfield 36, 3) := by decide +kernel
theorem dX0_copyFrom_104 : decode cX0_copyFrom 104 = .ok (.invokestatic 43, 3) := by decide +kernel
theorem dX0_copyFrom_107 : decode cX0_copyFrom 107 = .ok (.return_, 1) := by decide +kernel
theorem dX2_copyFrom_0 : decode cX2_copyFrom 0 = .ok (.aload_n 0, 1) := by decide +kernel
theorem dX2_copyFrom_1 : decode cX2_copyFrom 1 = .ok (.aload_n 1, 1) := by decide +kernel
theorem dX2_copyFrom_2 : decode cX2_copyFrom 2 = .ok (.getfield 30, 3) := by decide +kernel
theorem dX2_copyFrom_5 : decode cX2_copyFrom 5 = .ok (.putfield 30, 3) := by decide +kernel
theorem dX2_copyFrom_8 : decode cX2_copyFrom 8 = .ok (.aload_n 1, 1) := by decide +kernel
theorem dX2_copyFrom_9 : decode cX2_copyFrom 9 = .ok (.getfield 9, 3) := by decide +kernel
theorem dX2_copyFrom_12 : decode cX2_copyFrom 12 = .ok (.aload_n 0, 1) := by decide +kernel
theorem dX2_copyFrom_13 : decode cX2_copyFrom 13 = .ok (.getfield 9, 3) := by decide +kernel
theorem dX2_copyFrom_16 : decode cX2_copyFrom 16 = .ok (.invokestatic 34, 3) := by decide +kernel
theorem dX2_copyFrom_19 : decode cX2_copyFrom 19 = .ok (.aload_n 1, 1) := by decide +kernel
theorem dX2_copyFrom_20 : decode cX2_copyFrom 20 = .ok (.getfield 15, 3) := by decide +kernel
theorem dX2_copyFrom_23 : decode cX2_copyFrom 23 = .ok (.aload_n 0, 1) := by decide +kernel
theorem dX2_copyFrom_24 : decode cX2_copyFrom 24 = .ok (.getfield 15, 3) := by decide +kernel
theorem dX2_copyFrom_27 : decode cX2_copyFrom 27 = .ok (.invokestatic 34, 3) := by decide +kernel
theorem dX2_copyFrom_30 : decode cX2_copyFrom 30 = .ok (.aload_n 1, 1) := by decide +kernel
theorem dX2_copyFrom_31 : decode cX2_copyFrom 31 = .ok (.getfield 18, 3) := by decide +kernel
theorem dX2_copyFrom_34 : decode cX2_copyFrom 34 = .ok (.aload_n 0, 1) := by decide +kernel
theorem dX2_copyFrom_35 : decode cX2_copyFrom 35 = .ok (.getfield 18, 3) := by decide +kernel
theorem dX2_copyFrom_38 : decode cX2_copyFrom 38 = .ok (.invokestatic 34, 3) := by decide +kernel
theorem dX2_copyFrom_41 : decode cX2_copyFrom 41 = .ok (.aload_n 1, 1) := by decide +kernel
theorem dX2_copyFrom_42 : decode cX2_copyFrom 42 = .ok (.getfield 21, 3) := by decide +kernel
theorem dX2_copyFrom_45 : decode cX2_copyFrom 45 = .ok (.aload_n 0, 1) := by decide +kernel
theorem dX2_copyFrom_46 : decode cX2_copyFrom 46 = .ok (.getfield 21, 3) := by decide +kernel
theorem dX2_copyFrom_49 : decode cX2_copyFrom 49 = .ok (.invokestatic 34, 3) := by decide +kernel
theorem dX2_copyFrom_52 : decode cX2_copyFrom 52 = .ok (.return_, 1) := by decide +kernel
theorem dX1_add_0 : decode cX1_add 0 = .ok (.iload_n 1, 1) := by decide +kernel
theorem dX1_add_1 : decode cX1_add 1 = .ok (.invokestatic 31, 3) := by decide +kernel
theorem dX1_add_4 : decode cX1_add 4 = .ok (.ifCond .eq 14, 3) := by decide +kernel
theorem dX1_add_7 : decode cX1_add 7 = .ok (.aload_n 0, 1) := by decide +kernel
theorem dX1_add_8 : decode cX1_add 8 = .ok (.getfield 9, 3) := by decide +kernel
theorem dX1_add_11 : decode cX1_add 11 = .ok (.iload_n 1, 1) := by decide +kernel
theorem dX1_add_12 : decode cX1_add 12 = .ok (.iaload, 1) := by decide +kernel
theorem dX1_add_13 : decode cX1_add 13 = .ok (.bipush 6, 2) := by decide +kernel
theorem dX1_add_15 : decode cX1_add 15 = .ok (.if_icmp .lt 5, 3) := by decide +kernel
theorem dX1_add_18 : decode cX1_add 18 = .ok (.iconst (-1), 1) := by decide +kernel
theorem dX1_add_19 : decode cX1_add 19 = .ok (.ireturn, 1) := by decide +kernel
theorem dX1_add_20 : decode cX1_add 20 = .ok (.aload_n 0, 1) := by decide +kernel
theorem dX1_add_21 : decode cX1_add 21 = .ok (.getfield 9, 3) := by decide +kernel
theorem dX1_add_24 : decode cX1_add 24 = .ok (.iload_n 1, 1) := by decide +kernel
theorem dX1_add_25 : decode cX1_add 25 = .ok (.iaload, 1) := by decide +kernel
theorem dX1_add_26 : decode cX1_add 26 = .ok (.istore 5, 2) := by decide +kernel
theorem dX1_add_28 : decode cX1_add 28 = .ok (.iload_n 1, 1) := by decide +kernel
theorem dX1_add_29 : decode cX1_add 29 = .ok (.bipush 6, 2) := by decide +kernel
theorem dX1_add_31 : decode cX1_add 31 = .ok (.imul, 1) := by decide +kernel
theorem dX1_add_32 : decode cX1_add 32 = .ok (.iload 5, 2) := by decide +kernel
theorem dX1_add_34 : decode cX1_add 34 = .ok (.iadd, 1) := by decide +kernel
theorem dX1_add_35 : decode cX1_add 35 = .ok (.istore 6, 2) := by decide +kernel
theorem dX1_add_37 : decode cX1_add 37 = .ok (.aload_n 0, 1) := by decide +kernel
theorem dX1_add_38 : decode cX1_add 38 = .ok (.getfield 15, 3) := by decide +kernel
theorem dX1_add_41 : decode cX1_add 41 = .ok (.iload 6, 2) := by decide +kernel
theorem dX1_add_43 : decode cX1_add 43 = .ok (.iload_n 2, 1) := by decide +kernel
theorem dX1_add_44 : decode cX1_add 44 = .ok (.iastore, 1) := by decide +kernel
theorem dX1_add_45 : decode cX1_add 45 = .ok (.aload_n 0, 1) := by decide +kernel
theorem dX1_add_46 : decode cX1_add 46 = .ok (.getfield 18, 3) := by decide +kernel
theorem dX1_add_49 : decode cX1_add 49 = .ok (.iload 6, 2) := by decide +kernel
theorem dX1_add_51 : decode cX1_add 51 = .ok (.iload_n 3, 1) := by decide +kernel
theorem dX1_add_52 : decode cX1_add 52 = .ok (.iastore, 1) := by decide +kernel
theorem dX1_add_53 : decode cX1_add 53 = .ok (.aload_n 0, 1) := by decide +kernel
theorem dX1_add_54 : decode cX1_add 54 = .ok (.getfield 21, 3) := by decide +kernel
theorem dX1_add_57 : decode cX1_add 57 = .ok (.iload 6, 2) := by decide +kernel
theorem dX1_add_59 : decode cX1_add 59 = .ok (.iload 4, 2) := by decide +kernel
theorem dX1_add_61 : decode cX1_add 61 = .ok (.iastore, 1) := by decide +kernel
theorem dX1_add_62 : decode cX1_add 62 = .ok (.aload_n 0, 1) := by decide +kernel
theorem dX1_add_63 : decode cX1_add 63 = .ok (.getfield 24, 3) := by decide +kernel
theorem dX1_add_66 : decode cX1_add 66 = .ok (.iload 6, 2) := by decide +kernel
theorem dX1_add_68 : decode cX1_add 68 = .ok (.iconst 1, 1) := by decide +kernel
theorem dX1_add_69 : decode cX1_add 69 = .ok (.iastore, 1) := by decide +kernel
theorem dX1_add_70 : decode cX1_add 70 = .ok (.aload_n 0, 1) := by decide +kernel
theorem dX1_add_71 : decode cX1_add 71 = .ok (.getfield 9, 3) := by decide +kernel
theorem dX1_add_74 : decode cX1_add 74 = .ok (.iload_n 1, 1) := by decide +kernel
theorem dX1_add_75 : decode cX1_add 75 = .ok (.iload 5, 2) := by decide +kernel
theorem dX1_add_77 : decode cX1_add 77 = .ok (.iconst 1, 1) := by decide +kernel
theorem dX1_add_78 : decode cX1_add 78 = .ok (.iadd, 1) := by decide +kernel
theorem dX1_add_79 : decode cX1_add 79 = .ok (.iastore, 1) := by decide +kernel
theorem dX1_add_80 : decode cX1_add 80 = .ok (.iload 5, 2) := by decide +kernel
theorem dX1_add_82 : decode cX1_add 82 = .ok (.ireturn, 1) := by decide +kernel
theorem dX1_has_0 : decode cX1_has 0 = .ok (.iload_n 1, 1) := by decide +kernel
theorem dX1_has_1 : decode cX1_has 1 = .ok (.invokestatic 31, 3) := by decide +kernel
theorem dX1_has_4 : decode cX1_has 4 = .ok (.ifCond .eq 21, 3) := by decide +kernel
theorem dX1_has_7 : decode cX1_has 7 = .ok (.iload_n 2, 1) := by decide +kernel
theorem dX1_has_8 : decode cX1_has 8 = .ok (.ifCond .lt 17, 3) := by decide +kernel
theorem dX1_has_11 : decode cX1_has 11 = .ok (.iload_n 2, 1) := by decide +kernel
theorem dX1_has_12 : decode cX1_has 12 = .ok (.aload_n 0, 1) := by decide +kernel
theorem dX1_has_13 : decode cX1_has 13 = .ok (.getfield 9, 3) := by decide +kernel
theorem dX1_has_16 : decode cX1_has 16 = .ok (.iload_n 1, 1) := by decide +kernel
theorem dX1_has_17 : decode cX1_has 17 = .ok (.iaload, 1) := by decide +kernel
theorem dX1_has_18 : decode cX1_has 18 = .ok (.if_icmp .ge 7, 3) := by decide +kernel
theorem dX1_has_21 : decode cX1_has 21 = .ok (.iconst 1, 1) := by decide +kernel
theorem dX1_has_22 : decode cX1_has 22 = .ok (.goto 4, 3) := by decide +kernel
theorem dX1_has_25 : decode cX1_has 25 = .ok (.iconst 0, 1) := by decide +kernel
theorem dX1_has_26 : decode cX1_has 26 = .ok (.ireturn, 1) := by decide +kernel
theorem dX1_isOffered_0 : decode cX1_isOffered 0 = .ok (.aload_n 0, 1) := by decide +kernel
theorem dX1_isOffered_1 : decode cX1_isOffered 1 = .ok (.iload_n 1, 1) := by decide +kernel
theorem dX1_isOffered_2 : decode cX1_isOffered 2 = .ok (.iload_n 2, 1) := by decide +kernel
theorem dX1_isOffered_3 : decode cX1_isOffered 3 = .ok (.invokevirtual 35, 3) := by decide +kernel
theorem dX1_isOffered_6 : decode cX1_isOffered 6 = .ok (.ifCond .eq 22, 3) := by decide +kernel
theorem dX1_isOffered_9 : decode cX1_isOffered 9 = .ok (.aload_n 0, 1) := by decide +kernel
theorem dX1_isOffered_10 : decode cX1_isOffered 10 = .ok (.getfield 24, 3) := by decide +kernel
theorem dX1_isOffered_13 : decode cX1_isOffered 13 = .ok (.iload_n 1, 1) := by decide +kernel
theorem dX1_isOffered_14 : decode cX1_isOffered 14 = .ok (.bipush 6, 2) := by decide +kernel
theorem dX1_isOffered_16 : decode cX1_isOffered 16 = .ok (.imul, 1) := by decide +kernel
theorem dX1_isOffered_17 : decode cX1_isOffered 17 = .ok (.iload_n 2, 1) := by decide +kernel
theorem dX1_isOffered_18 : decode cX1_isOffered 18 = .ok (.iadd, 1) := by decide +kernel
theorem dX1_isOffered_19 : decode cX1_isOffered 19 = .ok (.iaload, 1) := by decide +kernel
theorem dX1_isOffered_20 : decode cX1_isOffered 20 = .ok (.iconst 1, 1) := by decide +kernel
theorem dX1_isOffered_21 : decode cX1_isOffered 21 = .ok (.if_icmp .ne 7, 3) := by decide +kernel
theorem dX1_isOffered_24 : decode cX1_isOffered 24 = .ok (.iconst 1, 1) := by decide +kernel
theorem dX1_isOffered_25 : decode cX1_isOffered 25 = .ok (.goto 4, 3) := by decide +kernel
theorem dX1_isOffered_28 : decode cX1_isOffered 28 = .ok (.iconst 0, 1) := by decide +kernel
theorem dX1_isOffered_29 : decode cX1_isOffered 29 = .ok (.ireturn, 1) := by decide +kernel
theorem dX1_remove_0 : decode cX1_remove 0 = .ok (.aload_n 0, 1) := by decide +kernel
theorem dX1_remove_1 : decode cX1_remove 1 = .ok (.iload_n 1, 1) := by decide +kernel
theorem dX1_remove_2 : decode cX1_remove 2 = .ok (.iload_n 2, 1) := by decide +kernel
theorem dX1_remove_3 : decode cX1_remove 3 = .ok (.invokevirtual 35, 3) := by decide +kernel
theorem dX1_remove_6 : decode cX1_remove 6 = .ok (.ifCond .eq 15, 3) := by decide +kernel
theorem dX1_remove_9 : decode cX1_remove 9 = .ok (.aload_n 0, 1) := by decide +kernel
theorem dX1_remove_10 : decode cX1_remove 10 = .ok (.getfield 24, 3) := by decide +kernel
theorem dX1_remove_13 : decode cX1_remove 13 = .ok (.iload_n 1, 1) := by decide +kernel
theorem dX1_remove_14 : decode cX1_remove 14 = .ok (.bipush 6, 2) := by decide +kernel
theorem dX1_remove_16 : decode cX1_remove 16 = .ok (.imul, 1) := by decide +kernel
theorem dX1_remove_17 : decode cX1_remove 17 = .ok (.iload_n 2, 1) := by decide +kernel
theorem dX1_remove_18 : decode cX1_remove 18 = .ok (.iadd, 1) := by decide +kernel
theorem dX1_remove_19 : decode cX1_remove 19 = .ok (.iconst 0, 1) := by decide +kernel
theorem dX1_remove_20 : decode cX1_remove 20 = .ok (.iastore, 1) := by decide +kernel
theorem dX1_remove_21 : decode cX1_remove 21 = .ok (.iconst 0, 1) := by decide +kernel
theorem dX1_remove_22 : decode cX1_remove 22 = .ok (.istore_n 3, 1) := by decide +kernel
theorem dX1_remove_23 : decode cX1_remove 23 = .ok (.iconst 0, 1) := by decide +kernel
theorem dX1_remove_24 : decode cX1_remove 24 = .ok (.istore 4, 2) := by decide +kernel
theorem dX1_remove_26 : decode cX1_remove 26 = .ok (.iload 4, 2) := by decide +kernel
theorem dX1_remove_28 : decode cX1_remove 28 = .ok (.aload_n 0, 1) := by decide +kernel
theorem dX1_remove_29 : decode cX1_remove 29 = .ok (.iload_n 1, 1) := by decide +kernel
theorem dX1_remove_30 : decode cX1_remove 30 = .ok (.invokevirtual 50, 3) := by decide +kernel
theorem dX1_remove_33 : decode cX1_remove 33 = .ok (.if_icmp .ge 22, 3) := by decide +kernel
theorem dX1_remove_36 : decode cX1_remove 36 = .ok (.aload_n 0, 1) := by decide +kernel
theorem dX1_remove_37 : decode cX1_remove 37 = .ok (.iload_n 1, 1) := by decide +kernel
theorem dX1_remove_38 : decode cX1_remove 38 = .ok (.iload 4, 2) := by decide +kernel
theorem dX1_remove_40 : decode cX1_remove 40 = .ok (.invokevirtual 54, 3) := by decide +kernel
theorem dX1_remove_43 : decode cX1_remove 43 = .ok (.ifCond .eq 6, 3) := by decide +kernel
theorem dX1_remove_46 : decode cX1_remove 46 = .ok (.iinc 3 1, 3) := by decide +kernel
theorem dX1_remove_49 : decode cX1_remove 49 = .ok (.iinc 4 1, 3) := by decide +kernel
theorem dX1_remove_52 : decode cX1_remove 52 = .ok (.goto (-26), 3) := by decide +kernel
theorem dX1_remove_55 : decode cX1_remove 55 = .ok (.iload_n 3, 1) := by decide +kernel
theorem dX1_remove_56 : decode cX1_remove 56 = .ok (.ireturn, 1) := by decide +kernel
theorem dX0_add_0 : decode cX0_add 0 = .ok (.aload_n 0, 1) := by decide +kernel
theorem dX0_add_1 : decode cX0_add 1 = .ok (.getfield 39, 3) := by decide +kernel
theorem dX0_add_4 : decode cX0_add 4 = .ok (.bipush 24, 2) := by decide +kernel
theorem dX0_add_6 : decode cX0_add 6 = .ok (.if_icmp .lt 5, 3) := by decide +kernel
theorem dX0_add_9 : decode cX0_add 9 = .ok (.iconst (-1), 1) := by decide +kernel
theorem dX0_add_10 : decode cX0_add 10 = .ok (.ireturn, 1) := by decide +kernel
theorem dX0_add_11 : decode cX0_add 11 = .ok (.aload_n 0, 1) := by decide +kernel
theorem dX0_add_12 : decode cX0_add 12 = .ok (.getfield 39, 3) := by decide +kernel
theorem dX0_add_15 : decode cX0_add 15 = .ok (.istore 4, 2) := by decide +kernel
theorem dX0_add_17 : decode cX0_add 17 = .ok (.aload_n 0, 1) := by decide +kernel
theorem dX0_add_18 : decode cX0_add 18 = .ok (.getfield 9, 3) := by decide +kernel
theorem dX0_add_21 : decode cX0_add 21 = .ok (.iload 4, 2) := by decide +kernel
theorem dX0_add_23 : decode cX0_add 23 = .ok (.iload_n 1, 1) := by decide +kernel
theorem dX0_add_24 : decode cX0_add 24 = .ok (.iastore, 1) := by decide +kernel
theorem dX0_add_25 : decode cX0_add 25 = .ok (.aload_n 0, 1) := by decide +kernel
theorem dX0_add_26 : decode cX0_add 26 = .ok (.getfield 15, 3) := by decide +kernel
theorem dX0_add_29 : decode cX0_add 29 = .ok (.iload 4, 2) := by decide +kernel
theorem dX0_add_31 : decode cX0_add 31 = .ok (.iload_n 2, 1) := by decide +kernel
theorem dX0_add_32 : decode cX0_add 32 = .ok (.iastore, 1) := by decide +kernel
theorem dX0_add_33 : decode cX0_add 33 = .ok (.aload_n 0, 1) := by decide +kernel
theorem dX0_add_34 : decode cX0_add 34 = .ok (.getfield 18, 3) := by decide +kernel
theorem dX0_add_37 : decode cX0_add 37 = .ok (.iload 4, 2) := by decide +kernel
theorem dX0_add_39 : decode cX0_add 39 = .ok (.iload_n 3, 1) := by decide +kernel
theorem dX0_add_40 : decode cX0_add 40 = .ok (.iastore, 1) := by decide +kernel
theorem dX0_add_41 : decode cX0_add 41 = .ok (.aload_n 0, 1) := by decide +kernel
theorem dX0_add_42 : decode cX0_add 42 = .ok (.getfield 21, 3) := by decide +kernel
theorem dX0_add_45 : decode cX0_add 45 = .ok (.iload 4, 2) := by decide +kernel
theorem dX0_add_47 : decode cX0_add 47 = .ok (.iconst 0, 1) := by decide +kernel
theorem dX0_add_48 : decode cX0_add 48 = .ok (.iastore, 1) := by decide +kernel
theorem dX0_add_49 : decode cX0_add 49 = .ok (.aload_n 0, 1) := by decide +kernel
theorem dX0_add_50 : decode cX0_add 50 = .ok (.getfield 24, 3) := by decide +kernel
theorem dX0_add_53 : decode cX0_add 53 = .ok (.iload 4, 2) := by decide +kernel
theorem dX0_add_55 : decode cX0_add 55 = .ok (.iconst (-1), 1) := by decide +kernel
theorem dX0_add_56 : decode cX0_add 56 = .ok (.iastore, 1) := by decide +kernel
theorem dX0_add_57 : decode cX0_add 57 = .ok (.aload_n 0, 1) := by decide +kernel
theorem dX0_add_58 : decode cX0_add 58 = .ok (.getfield 27, 3) := by decide +kernel
theorem dX0_add_61 : decode cX0_add 61 = .ok (.iload 4, 2) := by decide +kernel
theorem dX0_add_63 : decode cX0_add 63 = .ok (.iconst 0, 1) := by decide +kernel
theorem dX0_add_64 : decode cX0_add 64 = .ok (.iastore, 1) := by decide +kernel
theorem dX0_add_65 : decode cX0_add 65 = .ok (.aload_n 0, 1) := by decide +kernel
theorem dX0_add_66 : decode cX0_add 66 = .ok (.getfield 30, 3) := by decide +kernel
theorem dX0_add_69 : decode cX0_add 69 = .ok (.iload 4, 2) := by decide +kernel
theorem dX0_add_71 : decode cX0_add 71 = .ok (.iconst (-1), 1) := by decide +kernel
theorem dX0_add_72 : decode cX0_add 72 = .ok (.iastore, 1) := by decide +kernel
theorem dX0_add_73 : decode cX0_add 73 = .ok (.aload_n 0, 1) := by decide +kernel
theorem dX0_add_74 : decode cX0_add 74 = .ok (.getfield 33, 3) := by decide +kernel
theorem dX0_add_77 : decode cX0_add 77 = .ok (.iload 4, 2) := by decide +kernel
theorem dX0_add_79 : decode cX0_add 79 = .ok (.iconst (-1), 1) := by decide +kernel
theorem dX0_add_80 : decode cX0_add 80 = .ok (.iastore, 1) := by decide +kernel
theorem dX0_add_81 : decode cX0_add 81 = .ok (.aload_n 0, 1) := by decide +kernel
theorem dX0_add_82 : decode cX0_add 82 = .ok (.getfield 36, 3) := by decide +kernel
theorem dX0_add_85 : decode cX0_add 85 = .ok (.iload 4, 2) := by decide +kernel
theorem dX0_add_87 : decode cX0_add 87 = .ok (.iconst (-1), 1) := by decide +kernel
theorem dX0_add_88 : decode cX0_add 88 = .ok (.iastore, 1) := by decide +kernel
theorem dX0_add_89 : decode cX0_add 89 = .ok (.aload_n 0, 1) := by decide +kernel
theorem dX0_add_90 : decode cX0_add 90 = .ok (.iload 4, 2) := by decide +kernel
theorem dX0_add_92 : decode cX0_add 92 = .ok (.iconst 1, 1) := by decide +kernel
theorem dX0_add_93 : decode cX0_add 93 = .ok (.iadd, 1) := by decide +kernel
theorem dX0_add_94 : decode cX0_add 94 = .ok (.putfield 39, 3) := by decide +kernel
theorem dX0_add_97 : decode cX0_add 97 = .ok (.iload 4, 2) := by decide +kernel
theorem dX0_add_99 : decode cX0_add 99 = .ok (.ireturn, 1) := by decide +kernel
theorem dX0_has_0 : decode cX0_has 0 = .ok (.iload_n 1, 1) := by decide +kernel
theorem dX0_has_1 : decode cX0_has 1 = .ok (.ifCond .lt 15, 3) := by decide +kernel
theorem dX0_has_4 : decode cX0_has 4 = .ok (.iload_n 1, 1) := by decide +kernel
theorem dX0_has_5 : decode cX0_has 5 = .ok (.aload_n 0, 1) := by decide +kernel
theorem dX0_has_6 : decode cX0_has 6 = .ok (.getfield 39, 3) := by decide +kernel
theorem dX0_has_9 : decode cX0_has 9 = .ok (.if_icmp .ge 7, 3) := by decide +kernel
theorem dX0_has_12 : decode cX0_has 12 = .ok (.iconst 1, 1) := by decide +kernel
theorem dX0_has_13 : decode cX0_has 13 = .ok (.goto 4, 3) := by decide +kernel
theorem dX0_has_16 : decode cX0_has 16 = .ok (.iconst 0, 1) := by decide +kernel
theorem dX0_has_17 : decode cX0_has 17 = .ok (.ireturn, 1) := by decide +kernel
theorem dX0_kindOf_0 : decode cX0_kindOf 0 = .ok (.aload_n 0, 1) := by decide +kernel
theorem dX0_kindOf_1 : decode cX0_kindOf 1 = .ok (.iload_n 1, 1) := by decide +kernel
theorem dX0_kindOf_2 : decode cX0_kindOf 2 = .ok (.invokevirtual 47, 3) := by decide +kernel
theorem dX0_kindOf_5 : decode cX0_kindOf 5 = .ok (.ifCond .eq 12, 3) := by decide +kernel
theorem dX0_kindOf_8 : decode cX0_kindOf 8 = .ok (.aload_n 0, 1) := by decide +kernel
theorem dX0_kindOf_9 : decode cX0_kindOf 9 = .ok (.getfield 9, 3) := by decide +kernel
theorem dX0_kindOf_12 : decode cX0_kindOf 12 = .ok (.iload_n 1, 1) := by decide +kernel
theorem dX0_kindOf_13 : decode cX0_kindOf 13 = .ok (.iaload, 1) := by decide +kernel
theorem dX0_kindOf_14 : decode cX0_kindOf 14 = .ok (.goto 4, 3) := by decide +kernel
theorem dX0_kindOf_17 : decode cX0_kindOf 17 = .ok (.iconst (-1), 1) := by decide +kernel
theorem dX0_kindOf_18 : decode cX0_kindOf 18 = .ok (.ireturn, 1) := by decide +kernel
theorem dX0_stageOf_0 : decode cX0_stageOf 0 = .ok (.aload_n 0, 1) := by decide +kernel
theorem dX0_stageOf_1 : decode cX0_stageOf 1 = .ok (.iload_n 1, 1) := by decide +kernel
theorem dX0_stageOf_2 : decode cX0_stageOf 2 = .ok (.invokevirtual 47, 3) := by decide +kernel
theorem dX0_stageOf_5 : decode cX0_stageOf 5 = .ok (.ifCond .eq 12, 3) := by decide +kernel
theorem dX0_stageOf_8 : decode cX0_stageOf 8 = .ok (.aload_n 0, 1) := by decide +kernel
theorem dX0_stageOf_9 : decode cX0_stageOf 9 = .ok (.getfield 21, 3) := by decide +kernel
theorem dX0_stageOf_12 : decode cX0_stageOf 12 = .ok (.iload_n 1, 1) := by decide +kernel
theorem dX0_stageOf_13 : decode cX0_stageOf 13 = .ok (.iaload, 1) := by decide +kernel
theorem dX0_stageOf_14 : decode cX0_stageOf 14 = .ok (.goto 4, 3) := by decide +kernel
theorem dX0_stageOf_17 : decode cX0_stageOf 17 = .ok (.iconst (-1), 1) := by decide +kernel
theorem dX0_stageOf_18 : decode cX0_stageOf 18 = .ok (.ireturn, 1) := by decide +kernel
theorem dX0_severityOf_0 : decode cX0_severityOf 0 = .ok (.aload_n 0, 1) := by decide +kernel
theorem dX0_severityOf_1 : decode cX0_severityOf 1 = .ok (.iload_n 1, 1) := by decide +kernel
theorem dX0_severityOf_2 : decode cX0_severityOf 2 = .ok (.invokevirtual 47, 3) := by decide +kernel
theorem dX0_severityOf_5 : decode cX0_severityOf 5 = .ok (.ifCond .eq 12, 3) := by decide +kernel
theorem dX0_severityOf_8 : decode cX0_severityOf 8 = .ok (.aload_n 0, 1) := by decide +kernel
theorem dX0_severityOf_9 : decode cX0_severityOf 9 = .ok (.getfield 15, 3) := by decide +kernel
theorem dX0_severityOf_12 : decode cX0_severityOf 12 = .ok (.iload_n 1, 1) := by decide +kernel
theorem dX0_severityOf_13 : decode cX0_severityOf 13 = .ok (.iaload, 1) := by decide +kernel
theorem dX0_severityOf_14 : decode cX0_severityOf 14 = .ok (.goto 4, 3) := by decide +kernel
theorem dX0_severityOf_17 : decode cX0_severityOf 17 = .ok (.iconst (-1), 1) := by decide +kernel
theorem dX0_severityOf_18 : decode cX0_severityOf 18 = .ok (.ireturn, 1) := by decide +kernel
theorem dX1_leastOf_0 : decode cX1_leastOf 0 = .ok (.aload_n 0, 1) := by decide +kernel
theorem dX1_leastOf_1 : decode cX1_leastOf 1 = .ok (.iload_n 1, 1) := by decide +kernel
theorem dX1_leastOf_2 : decode cX1_leastOf 2 = .ok (.iload_n 2, 1) := by decide +kernel
theorem dX1_leastOf_3 : decode cX1_leastOf 3 = .ok (.invokevirtual 35, 3) := by decide +kernel
theorem dX1_leastOf_6 : decode cX1_leastOf 6 = .ok (.ifCond .eq 17, 3) := by decide +kernel
theorem dX1_leastOf_9 : decode cX1_leastOf 9 = .ok (.aload_n 0, 1) := by decide +kernel
theorem dX1_leastOf_10 : decode cX1_leastOf 10 = .ok (.getfield 18, 3) := by decide +kernel
theorem dX1_leastOf_13 : decode cX1_leastOf 13 = .ok (.iload_n 1, 1) := by decide +kernel
theorem dX1_leastOf_14 : decode cX1_leastOf 14 = .ok (.bipush 6, 2) := by decide +kernel
theorem dX1_leastOf_16 : decode cX1_leastOf 16 = .ok (.imul, 1) := by decide +kernel
theorem dX1_leastOf_17 : decode cX1_leastOf 17 = .ok (.iload_n 2, 1) := by decide +kernel
theorem dX1_leastOf_18 : decode cX1_leastOf 18 = .ok (.iadd, 1) := by decide +kernel
theorem dX1_leastOf_19 : decode cX1_leastOf 19 = .ok (.iaload, 1) := by decide +kernel
theorem dX1_leastOf_20 : decode cX1_leastOf 20 = .ok (.goto 4, 3) := by decide +kernel
theorem dX1_leastOf_23 : decode cX1_leastOf 23 = .ok (.iconst 0, 1) := by decide +kernel
theorem dX1_leastOf_24 : decode cX1_leastOf 24 = .ok (.ireturn, 1) := by decide +kernel
theorem dX1_mostOf_0 : decode cX1_mostOf 0 = .ok (.aload_n 0, 1) := by decide +kernel
theorem dX1_mostOf_1 : decode cX1_mostOf 1 = .ok (.iload_n 1, 1) := by decide +kernel
theorem dX1_mostOf_2 : decode cX1_mostOf 2 = .ok (.iload_n 2, 1) := by decide +kernel
theorem dX1_mostOf_3 : decode cX1_mostOf 3 = .ok (.invokevirtual 35, 3) := by decide +kernel
theorem dX1_mostOf_6 : decode cX1_mostOf 6 = .ok (.ifCond .eq 17, 3) := by decide +kernel
theorem dX1_mostOf_9 : decode cX1_mostOf 9 = .ok (.aload_n 0, 1) := by decide +kernel
theorem dX1_mostOf_10 : decode cX1_mostOf 10 = .ok (.getfield 21, 3) := by decide +kernel
theorem dX1_mostOf_13 : decode cX1_mostOf 13 = .ok (.iload_n 1, 1) := by decide +kernel
theorem dX1_mostOf_14 : decode cX1_mostOf 14 = .ok (.bipush 6, 2) := by decide +kernel
theorem dX1_mostOf_16 : decode cX1_mostOf 16 = .ok (.imul, 1) := by decide +kernel
theorem dX1_mostOf_17 : decode cX1_mostOf 17 = .ok (.iload_n 2, 1) := by decide +kernel
theorem dX1_mostOf_18 : decode cX1_mostOf 18 = .ok (.iadd, 1) := by decide +kernel
theorem dX1_mostOf_19 : decode cX1_mostOf 19 = .ok (.iaload, 1) := by decide +kernel
theorem dX1_mostOf_20 : decode cX1_mostOf 20 = .ok (.goto 4, 3) := by decide +kernel
theorem dX1_mostOf_23 : decode cX1_mostOf 23 = .ok (.iconst 0, 1) := by decide +kernel
theorem dX1_mostOf_24 : decode cX1_mostOf 24 = .ok (.ireturn, 1) := by decide +kernel
theorem dX1_covers_0 : decode cX1_covers 0 = .ok (.iload_n 3, 1) := by decide +kernel
theorem dX1_covers_1 : decode cX1_covers 1 = .ok (.aload_n 0, 1) := by decide +kernel
theorem dX1_covers_2 : decode cX1_covers 2 = .ok (.iload_n 1, 1) := by decide +kernel
theorem dX1_covers_3 : decode cX1_covers 3 = .ok (.iload_n 2, 1) := by decide +kernel
theorem dX1_covers_4 : decode cX1_covers 4 = .ok (.invokevirtual 39, 3) := by decide +kernel
theorem dX1_covers_7 : decode cX1_covers 7 = .ok (.aload_n 0, 1) := by decide +kernel
theorem dX1_covers_8 : decode cX1_covers 8 = .ok (.iload_n 1, 1) := by decide +kernel
theorem dX1_covers_9 : decode cX1_covers 9 = .ok (.iload_n 2, 1) := by decide +kernel
theorem dX1_covers_10 : decode cX1_covers 10 = .ok (.invokevirtual 43, 3) := by decide +kernel
theorem dX1_covers_13 : decode cX1_covers 13 = .ok (.invokestatic 46, 3) := by decide +kernel
theorem dX1_covers_16 : decode cX1_covers 16 = .ok (.ireturn, 1) := by decide +kernel
theorem dX0_groupOf_0 : decode cX0_groupOf 0 = .ok (.aload_n 0, 1) := by decide +kernel
theorem dX0_groupOf_1 : decode cX0_groupOf 1 = .ok (.iload_n 1, 1) := by decide +kernel
theorem dX0_groupOf_2 : decode cX0_groupOf 2 = .ok (.invokevirtual 47, 3) := by decide +kernel
theorem dX0_groupOf_5 : decode cX0_groupOf 5 = .ok (.ifCond .eq 16, 3) := by decide +kernel
theorem dX0_groupOf_8 : decode cX0_groupOf 8 = .ok (.aload_n 0, 1) := by decide +kernel
theorem dX0_groupOf_9 : decode cX0_groupOf 9 = .ok (.getfield 15, 3) := by decide +kernel
theorem dX0_groupOf_12 : decode cX0_groupOf 12 = .ok (.iload_n 1, 1) := by decide +kernel
theorem dX0_groupOf_13 : decode cX0_groupOf 13 = .ok (.iaload, 1) := by decide +kernel
theorem dX0_groupOf_14 : decode cX0_groupOf 14 = .ok (.iconst 1, 1) := by decide +kernel
theorem dX0_groupOf_15 : decode cX0_groupOf 15 = .ok (.isub, 1) := by decide +kernel
theorem dX0_groupOf_16 : decode cX0_groupOf 16 = .ok (.iconst 3, 1) := by decide +kernel
theorem dX0_groupOf_17 : decode cX0_groupOf 17 = .ok (.idiv, 1) := by decide +kernel
theorem dX0_groupOf_18 : decode cX0_groupOf 18 = .ok (.goto 4, 3) := by decide +kernel
theorem dX0_groupOf_21 : decode cX0_groupOf 21 = .ok (.iconst (-1), 1) := by decide +kernel
theorem dX0_groupOf_22 : decode cX0_groupOf 22 = .ok (.ireturn, 1) := by decide +kernel
theorem dX2_latestOf_0 : decode cX2_latestOf 0 = .ok (.iload_n 1, 1) := by decide +kernel
theorem dX2_latestOf_1 : decode cX2_latestOf 1 = .ok (.invokestatic 38, 3) := by decide +kernel
theorem dX2_latestOf_4 : decode cX2_latestOf 4 = .ok (.ifCond .eq 23, 3) := by decide +kernel
theorem dX2_latestOf_7 : decode cX2_latestOf 7 = .ok (.iload_n 2, 1) := by decide +kernel
theorem dX2_latestOf_8 : decode cX2_latestOf 8 = .ok (.invokestatic 42, 3) := by decide +kernel
theorem dX2_latestOf_11 : decode cX2_latestOf 11 = .ok (.ifCond .eq 16, 3) := by decide +kernel
theorem dX2_latestOf_14 : decode cX2_latestOf 14 = .ok (.aload_n 0, 1) := by decide +kernel
theorem dX2_latestOf_15 : decode cX2_latestOf 15 = .ok (.getfield 21, 3) := by decide +kernel
theorem dX2_latestOf_18 : decode cX2_latestOf 18 = .ok (.iload_n 1, 1) := by decide +kernel
theorem dX2_latestOf_19 : decode cX2_latestOf 19 = .ok (.iconst 3, 1) := by decide +kernel
theorem dX2_latestOf_20 : decode cX2_latestOf 20 = .ok (.imul, 1) := by decide +kernel
theorem dX2_latestOf_21 : decode cX2_latestOf 21 = .ok (.iload_n 2, 1) := by decide +kernel
theorem dX2_latestOf_22 : decode cX2_latestOf 22 = .ok (.iadd, 1) := by decide +kernel
theorem dX2_latestOf_23 : decode cX2_latestOf 23 = .ok (.iaload, 1) := by decide +kernel
theorem dX2_latestOf_24 : decode cX2_latestOf 24 = .ok (.goto 4, 3) := by decide +kernel
theorem dX2_latestOf_27 : decode cX2_latestOf 27 = .ok (.iconst (-1), 1) := by decide +kernel
theorem dX2_latestOf_28 : decode cX2_latestOf 28 = .ok (.ireturn, 1) := by decide +kernel
theorem dX2_has_0 : decode cX2_has 0 = .ok (.iload_n 1, 1) := by decide +kernel
theorem dX2_has_1 : decode cX2_has 1 = .ok (.ifCond .lt 15, 3) := by decide +kernel
theorem dX2_has_4 : decode cX2_has 4 = .ok (.iload_n 1, 1) := by decide +kernel
theorem dX2_has_5 : decode cX2_has 5 = .ok (.aload_n 0, 1) := by decide +kernel
theorem dX2_has_6 : decode cX2_has 6 = .ok (.getfield 30, 3) := by decide +kernel
theorem dX2_has_9 : decode cX2_has 9 = .ok (.if_icmp .ge 7, 3) := by decide +kernel
theorem dX2_has_12 : decode cX2_has 12 = .ok (.iconst 1, 1) := by decide +kernel
theorem dX2_has_13 : decode cX2_has 13 = .ok (.goto 4, 3) := by decide +kernel
theorem dX2_has_16 : decode cX2_has 16 = .ok (.iconst 0, 1) := by decide +kernel
theorem dX2_has_17 : decode cX2_has 17 = .ok (.ireturn, 1) := by decide +kernel
theorem dX2_monthOf_0 : decode cX2_monthOf 0 = .ok (.aload_n 0, 1) := by decide +kernel
theorem dX2_monthOf_1 : decode cX2_monthOf 1 = .ok (.iload_n 1, 1) := by decide +kernel
theorem dX2_monthOf_2 : decode cX2_monthOf 2 = .ok (.invokevirtual 45, 3) := by decide +kernel
theorem dX2_monthOf_5 : decode cX2_monthOf 5 = .ok (.ifCond .eq 12, 3) := by decide +kernel
theorem dX2_monthOf_8 : decode cX2_monthOf 8 = .ok (.aload_n 0, 1) := by decide +kernel
theorem dX2_monthOf_9 : decode cX2_monthOf 9 = .ok (.getfield 15, 3) := by decide +kernel
theorem dX2_monthOf_12 : decode cX2_monthOf 12 = .ok (.iload_n 1, 1) := by decide +kernel
theorem dX2_monthOf_13 : decode cX2_monthOf 13 = .ok (.iaload, 1) := by decide +kernel
theorem dX2_monthOf_14 : decode cX2_monthOf 14 = .ok (.goto 4, 3) := by decide +kernel
theorem dX2_monthOf_17 : decode cX2_monthOf 17 = .ok (.iconst (-1), 1) := by decide +kernel
theorem dX2_monthOf_18 : decode cX2_monthOf 18 = .ok (.ireturn, 1) := by decide +kernel
theorem dX2_amendsOf_0 : decode cX2_amendsOf 0 = .ok (.aload_n 0, 1) := by decide +kernel
theorem dX2_amendsOf_1 : decode cX2_amendsOf 1 = .ok (.iload_n 1, 1) := by decide +kernel
theorem dX2_amendsOf_2 : decode cX2_amendsOf 2 = .ok (.invokevirtual 45, 3) := by decide +kernel
theorem dX2_amendsOf_5 : decode cX2_amendsOf 5 = .ok (.ifCond .eq 12, 3) := by decide +kernel
theorem dX2_amendsOf_8 : decode cX2_amendsOf 8 = .ok (.aload_n 0, 1) := by decide +kernel
theorem dX2_amendsOf_9 : decode cX2_amendsOf 9 = .ok (.getfield 9, 3) := by decide +kernel
theorem dX2_amendsOf_12 : decode cX2_amendsOf 12 = .ok (.iload_n 1, 1) := by decide +kernel
theorem dX2_amendsOf_13 : decode cX2_amendsOf 13 = .ok (.iaload, 1) := by decide +kernel
theorem dX2_amendsOf_14 : decode cX2_amendsOf 14 = .ok (.goto 4, 3) := by decide +kernel
theorem dX2_amendsOf_17 : decode cX2_amendsOf 17 = .ok (.iconst (-1), 1) := by decide +kernel
theorem dX2_amendsOf_18 : decode cX2_amendsOf 18 = .ok (.ireturn, 1) := by decide +kernel
theorem dX1_costOf_0 : decode cX1_costOf 0 = .ok (.aload_n 0, 1) := by decide +kernel
theorem dX1_costOf_1 : decode cX1_costOf 1 = .ok (.iload_n 1, 1) := by decide +kernel
theorem dX1_costOf_2 : decode cX1_costOf 2 = .ok (.iload_n 2, 1) := by decide +kernel
theorem dX1_costOf_3 : decode cX1_costOf 3 = .ok (.invokevirtual 35, 3) := by decide +kernel
theorem dX1_costOf_6 : decode cX1_costOf 6 = .ok (.ifCond .eq 17, 3) := by decide +kernel
theorem dX1_costOf_9 : decode cX1_costOf 9 = .ok (.aload_n 0, 1) := by decide +kernel
theorem dX1_costOf_10 : decode cX1_costOf 10 = .ok (.getfield 15, 3) := by decide +kernel
theorem dX1_costOf_13 : decode cX1_costOf 13 = .ok (.iload_n 1, 1) := by decide +kernel
theorem dX1_costOf_14 : decode cX1_costOf 14 = .ok (.bipush 6, 2) := by decide +kernel
theorem dX1_costOf_16 : decode cX1_costOf 16 = .ok (.imul, 1) := by decide +kernel
theorem dX1_costOf_17 : decode cX1_costOf 17 = .ok (.iload_n 2, 1) := by decide +kernel
theorem dX1_costOf_18 : decode cX1_costOf 18 = .ok (.iadd, 1) := by decide +kernel
theorem dX1_costOf_19 : decode cX1_costOf 19 = .ok (.iaload, 1) := by decide +kernel
theorem dX1_costOf_20 : decode cX1_costOf 20 = .ok (.goto 4, 3) := by decide +kernel
theorem dX1_costOf_23 : decode cX1_costOf 23 = .ok (.iconst 0, 1) := by decide +kernel
theorem dX1_costOf_24 : decode cX1_costOf 24 = .ok (.ireturn, 1) := by decide +kernel
theorem dX0_gotOf_0 : decode cX0_gotOf 0 = .ok (.aload_n 0, 1) := by decide +kernel
theorem dX0_gotOf_1 : decode cX0_gotOf 1 = .ok (.iload_n 1, 1) := by decide +kernel
theorem dX0_gotOf_2 : decode cX0_gotOf 2 = .ok (.invokevirtual 47, 3) := by decide +kernel
theorem dX0_gotOf_5 : decode cX0_gotOf 5 = .ok (.ifCond .eq 12, 3) := by decide +kernel
theorem dX0_gotOf_8 : decode cX0_gotOf 8 = .ok (.aload_n 0, 1) := by decide +kernel
theorem dX0_gotOf_9 : decode cX0_gotOf 9 = .ok (.getfield 27, 3) := by decide +kernel
theorem dX0_gotOf_12 : decode cX0_gotOf 12 = .ok (.iload_n 1, 1) := by decide +kernel
theorem dX0_gotOf_13 : decode cX0_gotOf 13 = .ok (.iaload, 1) := by decide +kernel
theorem dX0_gotOf_14 : decode cX0_gotOf 14 = .ok (.goto 4, 3) := by decide +kernel
theorem dX0_gotOf_17 : decode cX0_gotOf 17 = .ok (.iconst 0, 1) := by decide +kernel
theorem dX0_gotOf_18 : decode cX0_gotOf 18 = .ok (.ireturn, 1) := by decide +kernel
theorem dX0_give_0 : decode cX0_give 0 = .ok (.aload_n 0, 1) := by decide +kernel
theorem dX0_give_1 : decode cX0_give 1 = .ok (.iload_n 1, 1) := by decide +kernel
theorem dX0_give_2 : decode cX0_give 2 = .ok (.invokevirtual 47, 3) := by decide +kernel
theorem dX0_give_5 : decode cX0_give 5 = .ok (.ifCond .eq 17, 3) := by decide +kernel
theorem dX0_give_8 : decode cX0_give 8 = .ok (.aload_n 0, 1) := by decide +kernel
theorem dX0_give_9 : decode cX0_give 9 = .ok (.getfield 24, 3) := by decide +kernel
theorem dX0_give_12 : decode cX0_give 12 = .ok (.iload_n 1, 1) := by decide +kernel
theorem dX0_give_13 : decode cX0_give 13 = .ok (.iload_n 2, 1) := by decide +kernel
theorem dX0_give_14 : decode cX0_give 14 = .ok (.iastore, 1) := by decide +kernel
theorem dX0_give_15 : decode cX0_give 15 = .ok (.aload_n 0, 1) := by decide +kernel
theorem dX0_give_16 : decode cX0_give 16 = .ok (.getfield 27, 3) := by decide +kernel
theorem dX0_give_19 : decode cX0_give 19 = .ok (.iload_n 1, 1) := by decide +kernel
theorem dX0_give_20 : decode cX0_give 20 = .ok (.iload_n 3, 1) := by decide +kernel
theorem dX0_give_21 : decode cX0_give 21 = .ok (.iastore, 1) := by decide +kernel
theorem dX0_give_22 : decode cX0_give 22 = .ok (.return_, 1) := by decide +kernel
theorem dX2_add_0 : decode cX2_add 0 = .ok (.iload_n 1, 1) := by decide +kernel
theorem dX2_add_1 : decode cX2_add 1 = .ok (.invokestatic 38, 3) := by decide +kernel
theorem dX2_add_4 : decode cX2_add 4 = .ok (.ifCond .eq 19, 3) := by decide +kernel
theorem dX2_add_7 : decode cX2_add 7 = .ok (.iload_n 2, 1) := by decide +kernel
theorem dX2_add_8 : decode cX2_add 8 = .ok (.invokestatic 42, 3) := by decide +kernel
theorem dX2_add_11 : decode cX2_add 11 = .ok (.ifCond .eq 12, 3) := by decide +kernel
theorem dX2_add_14 : decode cX2_add 14 = .ok (.aload_n 0, 1) := by decide +kernel
theorem dX2_add_15 : decode cX2_add 15 = .ok (.getfield 30, 3) := by decide +kernel
theorem dX2_add_18 : decode cX2_add 18 = .ok (.bipush 24, 2) := by decide +kernel
theorem dX2_add_20 : decode cX2_add 20 = .ok (.if_icmp .lt 5, 3) := by decide +kernel
theorem dX2_add_23 : decode cX2_add 23 = .ok (.iconst (-1), 1) := by decide +kernel
theorem dX2_add_24 : decode cX2_add 24 = .ok (.ireturn, 1) := by decide +kernel
theorem dX2_add_25 : decode cX2_add 25 = .ok (.aload_n 0, 1) := by decide +kernel
theorem dX2_add_26 : decode cX2_add 26 = .ok (.getfield 30, 3) := by decide +kernel
theorem dX2_add_29 : decode cX2_add 29 = .ok (.istore 6, 2) := by decide +kernel
theorem dX2_add_31 : decode cX2_add 31 = .ok (.aload_n 0, 1) := by decide +kernel
theorem dX2_add_32 : decode cX2_add 32 = .ok (.getfield 9, 3) := by decide +kernel
theorem dX2_add_35 : decode cX2_add 35 = .ok (.iload 6, 2) := by decide +kernel
theorem dX2_add_37 : decode cX2_add 37 = .ok (.iload_n 3, 1) := by decide +kernel
theorem dX2_add_38 : decode cX2_add 38 = .ok (.iastore, 1) := by decide +kernel
theorem dX2_add_39 : decode cX2_add 39 = .ok (.aload_n 0, 1) := by decide +kernel
theorem dX2_add_40 : decode cX2_add 40 = .ok (.getfield 15, 3) := by decide +kernel
theorem dX2_add_43 : decode cX2_add 43 = .ok (.iload 6, 2) := by decide +kernel
theorem dX2_add_45 : decode cX2_add 45 = .ok (.iload 4, 2) := by decide +kernel
theorem dX2_add_47 : decode cX2_add 47 = .ok (.iastore, 1) := by decide +kernel
theorem dX2_add_48 : decode cX2_add 48 = .ok (.aload_n 0, 1) := by decide +kernel
theorem dX2_add_49 : decode cX2_add 49 = .ok (.getfield 18, 3) := by decide +kernel
theorem dX2_add_52 : decode cX2_add 52 = .ok (.iload 6, 2) := by decide +kernel
theorem dX2_add_54 : decode cX2_add 54 = .ok (.iload 5, 2) := by decide +kernel
theorem dX2_add_56 : decode cX2_add 56 = .ok (.iastore, 1) := by decide +kernel
theorem dX2_add_57 : decode cX2_add 57 = .ok (.aload_n 0, 1) := by decide +kernel
theorem dX2_add_58 : decode cX2_add 58 = .ok (.getfield 21, 3) := by decide +kernel
theorem dX2_add_61 : decode cX2_add 61 = .ok (.iload_n 1, 1) := by decide +kernel
theorem dX2_add_62 : decode cX2_add 62 = .ok (.iconst 3, 1) := by decide +kernel
theorem dX2_add_63 : decode cX2_add 63 = .ok (.imul, 1) := by decide +kernel
theorem dX2_add_64 : decode cX2_add 64 = .ok (.iload_n 2, 1) := by decide +kernel
theorem dX2_add_65 : decode cX2_add 65 = .ok (.iadd, 1) := by decide +kernel
theorem dX2_add_66 : decode cX2_add 66 = .ok (.iload 6, 2) := by decide +kernel
theorem dX2_add_68 : decode cX2_add 68 = .ok (.iastore, 1) := by decide +kernel
theorem dX2_add_69 : decode cX2_add 69 = .ok (.aload_n 0, 1) := by decide +kernel
theorem dX2_add_70 : decode cX2_add 70 = .ok (.iload 6, 2) := by decide +kernel
theorem dX2_add_72 : decode cX2_add 72 = .ok (.iconst 1, 1) := by decide +kernel
theorem dX2_add_73 : decode cX2_add 73 = .ok (.iadd, 1) := by decide +kernel
theorem dX2_add_74 : decode cX2_add 74 = .ok (.putfield 30, 3) := by decide +kernel
theorem dX2_add_77 : decode cX2_add 77 = .ok (.iload 6, 2) := by decide +kernel
theorem dX2_add_79 : decode cX2_add 79 = .ok (.ireturn, 1) := by decide +kernel
theorem dX0_noteDecision_0 : decode cX0_noteDecision 0 = .ok (.aload_n 0, 1) := by decide +kernel
theorem dX0_noteDecision_1 : decode cX0_noteDecision 1 = .ok (.iload_n 1, 1) := by decide +kernel
theorem dX0_noteDecision_2 : decode cX0_noteDecision 2 = .ok (.invokevirtual 47, 3) := by decide +kernel
theorem dX0_noteDecision_5 : decode cX0_noteDecision 5 = .ok (.ifCond .eq 32, 3) := by decide +kernel
theorem dX0_noteDecision_8 : decode cX0_noteDecision 8 = .ok (.aload_n 0, 1) := by decide +kernel
theorem dX0_noteDecision_9 : decode cX0_noteDecision 9 = .ok (.getfield 21, 3) := by decide +kernel
theorem dX0_noteDecision_12 : decode cX0_noteDecision 12 = .ok (.iload_n 1, 1) := by decide +kernel
theorem dX0_noteDecision_13 : decode cX0_noteDecision 13 = .ok (.iconst 1, 1) := by decide +kernel
theorem dX0_noteDecision_14 : decode cX0_noteDecision 14 = .ok (.iastore, 1) := by decide +kernel
theorem dX0_noteDecision_15 : decode cX0_noteDecision 15 = .ok (.aload_n 0, 1) := by decide +kernel
theorem dX0_noteDecision_16 : decode cX0_noteDecision 16 = .ok (.getfield 33, 3) := by decide +kernel
theorem dX0_noteDecision_19 : decode cX0_noteDecision 19 = .ok (.iload_n 1, 1) := by decide +kernel
theorem dX0_noteDecision_20 : decode cX0_noteDecision 20 = .ok (.iload_n 2, 1) := by decide +kernel
theorem dX0_noteDecision_21 : decode cX0_noteDecision 21 = .ok (.iastore, 1) := by decide +kernel
theorem dX0_noteDecision_22 : decode cX0_noteDecision 22 = .ok (.aload_n 0, 1) := by decide +kernel
theorem dX0_noteDecision_23 : decode cX0_noteDecision 23 = .ok (.getfield 36, 3) := by decide +kernel
theorem dX0_noteDecision_26 : decode cX0_noteDecision 26 = .ok (.iload_n 1, 1) := by decide +kernel
theorem dX0_noteDecision_27 : decode cX0_noteDecision 27 = .ok (.iload_n 3, 1) := by decide +kernel
theorem dX0_noteDecision_28 : decode cX0_noteDecision 28 = .ok (.iastore, 1) := by decide +kernel
theorem dX0_noteDecision_29 : decode cX0_noteDecision 29 = .ok (.aload_n 0, 1) := by decide +kernel
theorem dX0_noteDecision_30 : decode cX0_noteDecision 30 = .ok (.getfield 30, 3) := by decide +kernel
theorem dX0_noteDecision_33 : decode cX0_noteDecision 33 = .ok (.iload_n 1, 1) := by decide +kernel
theorem dX0_noteDecision_34 : decode cX0_noteDecision 34 = .ok (.iload 4, 2) := by decide +kernel
theorem dX0_noteDecision_36 : decode cX0_noteDecision 36 = .ok (.iastore, 1) := by decide +kernel
theorem dX0_noteDecision_37 : decode cX0_noteDecision 37 = .ok (.return_, 1) := by decide +kernel
theorem dX0_followedBy_0 : decode cX0_followedBy 0 = .ok (.aload_n 0, 1) := by decide +kernel
theorem dX0_followedBy_1 : decode cX0_followedBy 1 = .ok (.iload_n 1, 1) := by decide +kernel
theorem dX0_followedBy_2 : decode cX0_followedBy 2 = .ok (.invokevirtual 47, 3) := by decide +kernel
theorem dX0_followedBy_5 : decode cX0_followedBy 5 = .ok (.ifCond .eq 12, 3) := by decide +kernel
theorem dX0_followedBy_8 : decode cX0_followedBy 8 = .ok (.aload_n 0, 1) := by decide +kernel
theorem dX0_followedBy_9 : decode cX0_followedBy 9 = .ok (.getfield 36, 3) := by decide +kernel
theorem dX0_followedBy_12 : decode cX0_followedBy 12 = .ok (.iload_n 1, 1) := by decide +kernel
theorem dX0_followedBy_13 : decode cX0_followedBy 13 = .ok (.iaload, 1) := by decide +kernel
theorem dX0_followedBy_14 : decode cX0_followedBy 14 = .ok (.goto 4, 3) := by decide +kernel
theorem dX0_followedBy_17 : decode cX0_followedBy 17 = .ok (.iconst (-1), 1) := by decide +kernel
theorem dX0_followedBy_18 : decode cX0_followedBy 18 = .ok (.ireturn, 1) := by decide +kernel
theorem dX2_setterOf_0 : decode cX2_setterOf 0 = .ok (.aload_n 0, 1) := by decide +kernel
theorem dX2_setterOf_1 : decode cX2_setterOf 1 = .ok (.iload_n 1, 1) := by decide +kernel
theorem dX2_setterOf_2 : decode cX2_setterOf 2 = .ok (.invokevirtual 45, 3) := by decide +kernel
theorem dX2_setterOf_5 : decode cX2_setterOf 5 = .ok (.ifCond .eq 12, 3) := by decide +kernel
theorem dX2_setterOf_8 : decode cX2_setterOf 8 = .ok (.aload_n 0, 1) := by decide +kernel
theorem dX2_setterOf_9 : decode cX2_setterOf 9 = .ok (.getfield 18, 3) := by decide +kernel
theorem dX2_setterOf_12 : decode cX2_setterOf 12 = .ok (.iload_n 1, 1) := by decide +kernel
theorem dX2_setterOf_13 : decode cX2_setterOf 13 = .ok (.iaload, 1) := by decide +kernel
theorem dX2_setterOf_14 : decode cX2_setterOf 14 = .ok (.goto 4, 3) := by decide +kernel
theorem dX2_setterOf_17 : decode cX2_setterOf 17 = .ok (.iconst (-1), 1) := by decide +kernel
theorem dX2_setterOf_18 : decode cX2_setterOf 18 = .ok (.ireturn, 1) := by decide +kernel
theorem dX0_monthOf_0 : decode cX0_monthOf 0 = .ok (.aload_n 0, 1) := by decide +kernel
theorem dX0_monthOf_1 : decode cX0_monthOf 1 = .ok (.iload_n 1, 1) := by decide +kernel
theorem dX0_monthOf_2 : decode cX0_monthOf 2 = .ok (.invokevirtual 47, 3) := by decide +kernel
theorem dX0_monthOf_5 : decode cX0_monthOf 5 = .ok (.ifCond .eq 12, 3) := by decide +kernel
theorem dX0_monthOf_8 : decode cX0_monthOf 8 = .ok (.aload_n 0, 1) := by decide +kernel
theorem dX0_monthOf_9 : decode cX0_monthOf 9 = .ok (.getfield 33, 3) := by decide +kernel
theorem dX0_monthOf_12 : decode cX0_monthOf 12 = .ok (.iload_n 1, 1) := by decide +kernel
theorem dX0_monthOf_13 : decode cX0_monthOf 13 = .ok (.iaload, 1) := by decide +kernel
theorem dX0_monthOf_14 : decode cX0_monthOf 14 = .ok (.goto 4, 3) := by decide +kernel
theorem dX0_monthOf_17 : decode cX0_monthOf 17 = .ok (.iconst (-1), 1) := by decide +kernel
theorem dX0_monthOf_18 : decode cX0_monthOf 18 = .ok (.ireturn, 1) := by decide +kernel
theorem dX0_changeStage_0 : decode cX0_changeStage 0 = .ok (.aload_n 0, 1) := by decide +kernel
theorem dX0_changeStage_1 : decode cX0_changeStage 1 = .ok (.iload_n 1, 1) := by decide +kernel
theorem dX0_changeStage_2 : decode cX0_changeStage 2 = .ok (.invokevirtual 47, 3) := by decide +kernel
theorem dX0_changeStage_5 : decode cX0_changeStage 5 = .ok (.ifCond .eq 10, 3) := by decide +kernel
theorem dX0_changeStage_8 : decode cX0_changeStage 8 = .ok (.aload_n 0, 1) := by decide +kernel
theorem dX0_changeStage_9 : decode cX0_changeStage 9 = .ok (.getfield 21, 3) := by decide +kernel
theorem dX0_changeStage_12 : decode cX0_changeStage 12 = .ok (.iload_n 1, 1) := by decide +kernel
theorem dX0_changeStage_13 : decode cX0_changeStage 13 = .ok (.iload_n 2, 1) := by decide +kernel
theorem dX0_changeStage_14 : decode cX0_changeStage 14 = .ok (.iastore, 1) := by decide +kernel
theorem dX0_changeStage_15 : decode cX0_changeStage 15 = .ok (.return_, 1) := by decide +kernel
theorem dX0_inStage_0 : decode cX0_inStage 0 = .ok (.iconst 0, 1) := by decide +kernel
theorem dX0_inStage_1 : decode cX0_inStage 1 = .ok (.istore_n 2, 1) := by decide +kernel
theorem dX0_inStage_2 : decode cX0_inStage 2 = .ok (.iconst 0, 1) := by decide +kernel
theorem dX0_inStage_3 : decode cX0_inStage 3 = .ok (.istore_n 3, 1) := by decide +kernel
theorem dX0_inStage_4 : decode cX0_inStage 4 = .ok (.iload_n 3, 1) := by decide +kernel
theorem dX0_inStage_5 : decode cX0_inStage 5 = .ok (.aload_n 0, 1) := by decide +kernel
theorem dX0_inStage_6 : decode cX0_inStage 6 = .ok (.getfield 39, 3) := by decide +kernel
theorem dX0_inStage_9 : decode cX0_inStage 9 = .ok (.if_icmp .ge 21, 3) := by decide +kernel
theorem dX0_inStage_12 : decode cX0_inStage 12 = .ok (.aload_n 0, 1) := by decide +kernel
theorem dX0_inStage_13 : decode cX0_inStage 13 = .ok (.iload_n 3, 1) := by decide +kernel
theorem dX0_inStage_14 : decode cX0_inStage 14 = .ok (.invokevirtual 51, 3) := by decide +kernel
theorem dX0_inStage_17 : decode cX0_inStage 17 = .ok (.iload_n 1, 1) := by decide +kernel
theorem dX0_inStage_18 : decode cX0_inStage 18 = .ok (.if_icmp .ne 6, 3) := by decide +kernel
theorem dX0_inStage_21 : decode cX0_inStage 21 = .ok (.iinc 2 1, 3) := by decide +kernel
theorem dX0_inStage_24 : decode cX0_inStage 24 = .ok (.iinc 3 1, 3) := by decide +kernel
theorem dX0_inStage_27 : decode cX0_inStage 27 = .ok (.goto (-23), 3) := by decide +kernel
theorem dX0_inStage_30 : decode cX0_inStage 30 = .ok (.iload_n 2, 1) := by decide +kernel
theorem dX0_inStage_31 : decode cX0_inStage 31 = .ok (.ireturn, 1) := by decide +kernel
theorem dX2_raise_0 : decode cX2_raise 0 = .ok (.aload_n 0, 1) := by decide +kernel
theorem dX2_raise_1 : decode cX2_raise 1 = .ok (.iload_n 1, 1) := by decide +kernel
theorem dX2_raise_2 : decode cX2_raise 2 = .ok (.invokevirtual 45, 3) := by decide +kernel
theorem dX2_raise_5 : decode cX2_raise 5 = .ok (.ifCond .eq 10, 3) := by decide +kernel
theorem dX2_raise_8 : decode cX2_raise 8 = .ok (.aload_n 0, 1) := by decide +kernel
theorem dX2_raise_9 : decode cX2_raise 9 = .ok (.getfield 9, 3) := by decide +kernel
theorem dX2_raise_12 : decode cX2_raise 12 = .ok (.iload_n 1, 1) := by decide +kernel
theorem dX2_raise_13 : decode cX2_raise 13 = .ok (.iload_n 2, 1) := by decide +kernel
theorem dX2_raise_14 : decode cX2_raise 14 = .ok (.iastore, 1) := by decide +kernel
theorem dX2_raise_15 : decode cX2_raise 15 = .ok (.return_, 1) := by decide +kernel
theorem dX0_customerOf_0 : decode cX0_customerOf 0 = .ok (.aload_n 0, 1) := by decide +kernel
theorem dX0_customerOf_1 : decode cX0_customerOf 1 = .ok (.iload_n 1, 1) := by decide +kernel
theorem dX0_customerOf_2 : decode cX0_customerOf 2 = .ok (.invokevirtual 47, 3) := by decide +kernel
theorem dX0_customerOf_5 : decode cX0_customerOf 5 = .ok (.ifCond .eq 12, 3) := by decide +kernel
theorem dX0_customerOf_8 : decode cX0_customerOf 8 = .ok (.aload_n 0, 1) := by decide +kernel
theorem dX0_customerOf_9 : decode cX0_customerOf 9 = .ok (.getfield 18, 3) := by decide +kernel
theorem dX0_customerOf_12 : decode cX0_customerOf 12 = .ok (.iload_n 1, 1) := by decide +kernel
theorem dX0_customerOf_13 : decode cX0_customerOf 13 = .ok (.iaload, 1) := by decide +kernel
theorem dX0_customerOf_14 : decode cX0_customerOf 14 = .ok (.goto 4, 3) := by decide +kernel
theorem dX0_customerOf_17 : decode cX0_customerOf 17 = .ok (.iconst (-1), 1) := by decide +kernel
theorem dX0_customerOf_18 : decode cX0_customerOf 18 = .ok (.ireturn, 1) := by decide +kernel
theorem dX0_amendsOf_0 : decode cX0_amendsOf 0 = .ok (.aload_n 0, 1) := by decide +kernel
theorem dX0_amendsOf_1 : decode cX0_amendsOf 1 = .ok (.iload_n 1, 1) := by decide +kernel
theorem dX0_amendsOf_2 : decode cX0_amendsOf 2 = .ok (.invokevirtual 47, 3) := by decide +kernel
theorem dX0_amendsOf_5 : decode cX0_amendsOf 5 = .ok (.ifCond .eq 12, 3) := by decide +kernel
theorem dX0_amendsOf_8 : decode cX0_amendsOf 8 = .ok (.aload_n 0, 1) := by decide +kernel
theorem dX0_amendsOf_9 : decode cX0_amendsOf 9 = .ok (.getfield 24, 3) := by decide +kernel
theorem dX0_amendsOf_12 : decode cX0_amendsOf 12 = .ok (.iload_n 1, 1) := by decide +kernel
theorem dX0_amendsOf_13 : decode cX0_amendsOf 13 = .ok (.iaload, 1) := by decide +kernel
theorem dX0_amendsOf_14 : decode cX0_amendsOf 14 = .ok (.goto 4, 3) := by decide +kernel
theorem dX0_amendsOf_17 : decode cX0_amendsOf 17 = .ok (.iconst (-1), 1) := by decide +kernel
theorem dX0_amendsOf_18 : decode cX0_amendsOf 18 = .ok (.ireturn, 1) := by decide +kernel
theorem dX0_reasonOf_0 : decode cX0_reasonOf 0 = .ok (.aload_n 0, 1) := by decide +kernel
theorem dX0_reasonOf_1 : decode cX0_reasonOf 1 = .ok (.iload_n 1, 1) := by decide +kernel
theorem dX0_reasonOf_2 : decode cX0_reasonOf 2 = .ok (.invokevirtual 47, 3) := by decide +kernel
theorem dX0_reasonOf_5 : decode cX0_reasonOf 5 = .ok (.ifCond .eq 12, 3) := by decide +kernel
theorem dX0_reasonOf_8 : decode cX0_reasonOf 8 = .ok (.aload_n 0, 1) := by decide +kernel
theorem dX0_reasonOf_9 : decode cX0_reasonOf 9 = .ok (.getfield 30, 3) := by decide +kernel
theorem dX0_reasonOf_12 : decode cX0_reasonOf 12 = .ok (.iload_n 1, 1) := by decide +kernel
theorem dX0_reasonOf_13 : decode cX0_reasonOf 13 = .ok (.iaload, 1) := by decide +kernel
theorem dX0_reasonOf_14 : decode cX0_reasonOf 14 = .ok (.goto 4, 3) := by decide +kernel
theorem dX0_reasonOf_17 : decode cX0_reasonOf 17 = .ok (.iconst (-1), 1) := by decide +kernel
theorem dX0_reasonOf_18 : decode cX0_reasonOf 18 = .ok (.ireturn, 1) := by decide +kernel
theorem dX0_having_0 : decode cX0_having 0 = .ok (.iconst 0, 1) := by decide +kernel
theorem dX0_having_1 : decode cX0_having 1 = .ok (.istore_n 3, 1) := by decide +kernel
theorem dX0_having_2 : decode cX0_having 2 = .ok (.iconst 0, 1) := by decide +kernel
theorem dX0_having_3 : decode cX0_having 3 = .ok (.istore 4, 2) := by decide +kernel
theorem dX0_having_5 : decode cX0_having 5 = .ok (.iload 4, 2) := by decide +kernel
theorem dX0_having_7 : decode cX0_having 7 = .ok (.aload_n 0, 1) := by decide +kernel
theorem dX0_having_8 : decode cX0_having 8 = .ok (.getfield 39, 3) := by decide +kernel
theorem dX0_having_11 : decode cX0_having 11 = .ok (.if_icmp .ge 32, 3) := by decide +kernel
theorem dX0_having_14 : decode cX0_having 14 = .ok (.aload_n 0, 1) := by decide +kernel
theorem dX0_having_15 : decode cX0_having 15 = .ok (.iload 4, 2) := by decide +kernel
theorem dX0_having_17 : decode cX0_having 17 = .ok (.invokevirtual 55, 3) := by decide +kernel
theorem dX0_having_20 : decode cX0_having 20 = .ok (.iload_n 1, 1) := by decide +kernel
theorem dX0_having_21 : decode cX0_having 21 = .ok (.if_icmp .ne 16, 3) := by decide +kernel
theorem dX0_having_24 : decode cX0_having 24 = .ok (.aload_n 0, 1) := by decide +kernel
theorem dX0_having_25 : decode cX0_having 25 = .ok (.iload 4, 2) := by decide +kernel
theorem dX0_having_27 : decode cX0_having 27 = .ok (.invokevirtual 58, 3) := by decide +kernel
theorem dX0_having_30 : decode cX0_having 30 = .ok (.iload_n 2, 1) := by decide +kernel
theorem dX0_having_31 : decode cX0_having 31 = .ok (.if_icmp .ne 6, 3) := by decide +kernel
theorem dX0_having_34 : decode cX0_having 34 = .ok (.iinc 3 1, 3) := by decide +kernel
theorem dX0_having_37 : decode cX0_having 37 = .ok (.iinc 4 1, 3) := by decide +kernel
theorem dX0_having_40 : decode cX0_having 40 = .ok (.goto (-35), 3) := by decide +kernel
theorem dX0_having_43 : decode cX0_having 43 = .ok (.iload_n 3, 1) := by decide +kernel
theorem dX0_having_44 : decode cX0_having 44 = .ok (.ireturn, 1) := by decide +kernel
theorem dX0_following_0 : decode cX0_following 0 = .ok (.iconst 0, 1) := by decide +kernel
theorem dX0_following_1 : decode cX0_following 1 = .ok (.istore_n 2, 1) := by decide +kernel
theorem dX0_following_2 : decode cX0_following 2 = .ok (.iconst 0, 1) := by decide +kernel
theorem dX0_following_3 : decode cX0_following 3 = .ok (.istore_n 3, 1) := by decide +kernel
theorem dX0_following_4 : decode cX0_following 4 = .ok (.iload_n 3, 1) := by decide +kernel
theorem dX0_following_5 : decode cX0_following 5 = .ok (.aload_n 0, 1) := by decide +kernel
theorem dX0_following_6 : decode cX0_following 6 = .ok (.getfield 39, 3) := by decide +kernel
theorem dX0_following_9 : decode cX0_following 9 = .ok (.if_icmp .ge 21, 3) := by decide +kernel
theorem dX0_following_12 : decode cX0_following 12 = .ok (.aload_n 0, 1) := by decide +kernel
theorem dX0_following_13 : decode cX0_following 13 = .ok (.iload_n 3, 1) := by decide +kernel
theorem dX0_following_14 : decode cX0_following 14 = .ok (.invokevirtual 61, 3) := by decide +kernel
theorem dX0_following_17 : decode cX0_following 17 = .ok (.iload_n 1, 1) := by decide +kernel
theorem dX0_following_18 : decode cX0_following 18 = .ok (.if_icmp .ne 6, 3) := by decide +kernel
theorem dX0_following_21 : decode cX0_following 21 = .ok (.iinc 2 1, 3) := by decide +kernel
theorem dX0_following_24 : decode cX0_following 24 = .ok (.iinc 3 1, 3) := by decide +kernel
theorem dX0_following_27 : decode cX0_following 27 = .ok (.goto (-23), 3) := by decide +kernel
theorem dX0_following_30 : decode cX0_following 30 = .ok (.iload_n 2, 1) := by decide +kernel
theorem dX0_following_31 : decode cX0_following 31 = .ok (.ireturn, 1) := by decide +kernel
theorem dX0_ofKind_0 : decode cX0_ofKind 0 = .ok (.iconst 0, 1) := by decide +kernel
theorem dX0_ofKind_1 : decode cX0_ofKind 1 = .ok (.istore_n 2, 1) := by decide +kernel
theorem dX0_ofKind_2 : decode cX0_ofKind 2 = .ok (.iconst 0, 1) := by decide +kernel
theorem dX0_ofKind_3 : decode cX0_ofKind 3 = .ok (.istore_n 3, 1) := by decide +kernel
theorem dX0_ofKind_4 : decode cX0_ofKind 4 = .ok (.iload_n 3, 1) := by decide +kernel
theorem dX0_ofKind_5 : decode cX0_ofKind 5 = .ok (.aload_n 0, 1) := by decide +kernel
theorem dX0_ofKind_6 : decode cX0_ofKind 6 = .ok (.getfield 39, 3) := by decide +kernel
theorem dX0_ofKind_9 : decode cX0_ofKind 9 = .ok (.if_icmp .ge 21, 3) := by decide +kernel
theorem dX0_ofKind_12 : decode cX0_ofKind 12 = .ok (.aload_n 0, 1) := by decide +kernel
theorem dX0_ofKind_13 : decode cX0_ofKind 13 = .ok (.iload_n 3, 1) := by decide +kernel
theorem dX0_ofKind_14 : decode cX0_ofKind 14 = .ok (.invokevirtual 55, 3) := by decide +kernel
theorem dX0_ofKind_17 : decode cX0_ofKind 17 = .ok (.iload_n 1, 1) := by decide +kernel
theorem dX0_ofKind_18 : decode cX0_ofKind 18 = .ok (.if_icmp .ne 6, 3) := by decide +kernel
theorem dX0_ofKind_21 : decode cX0_ofKind 21 = .ok (.iinc 2 1, 3) := by decide +kernel
theorem dX0_ofKind_24 : decode cX0_ofKind 24 = .ok (.iinc 3 1, 3) := by decide +kernel
theorem dX0_ofKind_27 : decode cX0_ofKind 27 = .ok (.goto (-23), 3) := by decide +kernel
theorem dX0_ofKind_30 : decode cX0_ofKind 30 = .ok (.iload_n 2, 1) := by decide +kernel
theorem dX0_ofKind_31 : decode cX0_ofKind 31 = .ok (.ireturn, 1) := by decide +kernel
theorem dX0_gotInKind_0 : decode cX0_gotInKind 0 = .ok (.iconst 0, 1) := by decide +kernel
theorem dX0_gotInKind_1 : decode cX0_gotInKind 1 = .ok (.istore_n 2, 1) := by decide +kernel
theorem dX0_gotInKind_2 : decode cX0_gotInKind 2 = .ok (.iconst 0, 1) := by decide +kernel
theorem dX0_gotInKind_3 : decode cX0_gotInKind 3 = .ok (.istore_n 3, 1) := by decide +kernel
theorem dX0_gotInKind_4 : decode cX0_gotInKind 4 = .ok (.iload_n 3, 1) := by decide +kernel
theorem dX0_gotInKind_5 : decode cX0_gotInKind 5 = .ok (.aload_n 0, 1) := by decide +kernel
theorem dX0_gotInKind_6 : decode cX0_gotInKind 6 = .ok (.getfield 39, 3) := by decide +kernel
theorem dX0_gotInKind_9 : decode cX0_gotInKind 9 = .ok (.if_icmp .ge 26, 3) := by decide +kernel
theorem dX0_gotInKind_12 : decode cX0_gotInKind 12 = .ok (.aload_n 0, 1) := by decide +kernel
theorem dX0_gotInKind_13 : decode cX0_gotInKind 13 = .ok (.iload_n 3, 1) := by decide +kernel
theorem dX0_gotInKind_14 : decode cX0_gotInKind 14 = .ok (.invokevirtual 55, 3) := by decide +kernel
theorem dX0_gotInKind_17 : decode cX0_gotInKind 17 = .ok (.iload_n 1, 1) := by decide +kernel
theorem dX0_gotInKind_18 : decode cX0_gotInKind 18 = .ok (.if_icmp .ne 11, 3) := by decide +kernel
theorem dX0_gotInKind_21 : decode cX0_gotInKind 21 = .ok (.iload_n 2, 1) := by decide +kernel
theorem dX0_gotInKind_22 : decode cX0_gotInKind 22 = .ok (.aload_n 0, 1) := by decide +kernel
theorem dX0_gotInKind_23 : decode cX0_gotInKind 23 = .ok (.iload_n 3, 1) := by decide +kernel
theorem dX0_gotInKind_24 : decode cX0_gotInKind 24 = .ok (.invokevirtual 67, 3) := by decide +kernel
theorem dX0_gotInKind_27 : decode cX0_gotInKind 27 = .ok (.iadd, 1) := by decide +kernel
theorem dX0_gotInKind_28 : decode cX0_gotInKind 28 = .ok (.istore_n 2, 1) := by decide +kernel
theorem dX0_gotInKind_29 : decode cX0_gotInKind 29 = .ok (.iinc 3 1, 3) := by decide +kernel
theorem dX0_gotInKind_32 : decode cX0_gotInKind 32 = .ok (.goto (-28), 3) := by decide +kernel
theorem dX0_gotInKind_35 : decode cX0_gotInKind 35 = .ok (.iload_n 2, 1) := by decide +kernel
theorem dX0_gotInKind_36 : decode cX0_gotInKind 36 = .ok (.ireturn, 1) := by decide +kernel
theorem dX0_gotInAll_0 : decode cX0_gotInAll 0 = .ok (.iconst 0, 1) := by decide +kernel
theorem dX0_gotInAll_1 : decode cX0_gotInAll 1 = .ok (.istore_n 1, 1) := by decide +kernel
theorem dX0_gotInAll_2 : decode cX0_gotInAll 2 = .ok (.iconst 0, 1) := by decide +kernel
theorem dX0_gotInAll_3 : decode cX0_gotInAll 3 = .ok (.istore_n 2, 1) := by decide +kernel
theorem dX0_gotInAll_4 : decode cX0_gotInAll 4 = .ok (.iload_n 2, 1) := by decide +kernel
theorem dX0_gotInAll_5 : decode cX0_gotInAll 5 = .ok (.iconst 4, 1) := by decide +kernel
theorem dX0_gotInAll_6 : decode cX0_gotInAll 6 = .ok (.if_icmp .ge 17, 3) := by decide +kernel
theorem dX0_gotInAll_9 : decode cX0_gotInAll 9 = .ok (.iload_n 1, 1) := by decide +kernel
theorem dX0_gotInAll_10 : decode cX0_gotInAll 10 = .ok (.aload_n 0, 1) := by decide +kernel
theorem dX0_gotInAll_11 : decode cX0_gotInAll 11 = .ok (.iload_n 2, 1) := by decide +kernel
theorem dX0_gotInAll_12 : decode cX0_gotInAll 12 = .ok (.invokevirtual 70, 3) := by decide +kernel
theorem dX0_gotInAll_15 : decode cX0_gotInAll 15 = .ok (.iadd, 1) := by decide +kernel
theorem dX0_gotInAll_16 : decode cX0_gotInAll 16 = .ok (.istore_n 1, 1) := by decide +kernel
theorem dX0_gotInAll_17 : decode cX0_gotInAll 17 = .ok (.iinc 2 1, 3) := by decide +kernel
theorem dX0_gotInAll_20 : decode cX0_gotInAll 20 = .ok (.goto (-16), 3) := by decide +kernel
theorem dX0_gotInAll_23 : decode cX0_gotInAll 23 = .ok (.iload_n 1, 1) := by decide +kernel
theorem dX0_gotInAll_24 : decode cX0_gotInAll 24 = .ok (.ireturn, 1) := by decide +kernel
theorem dX0_areAlike_0 : decode cX0_areAlike 0 = .ok (.aload_n 0, 1) := by decide +kernel
theorem dX0_areAlike_1 : decode cX0_areAlike 1 = .ok (.iload_n 1, 1) := by decide +kernel
theorem dX0_areAlike_2 : decode cX0_areAlike 2 = .ok (.invokevirtual 61, 3) := by decide +kernel
theorem dX0_areAlike_5 : decode cX0_areAlike 5 = .ok (.iconst (-1), 1) := by decide +kernel
theorem dX0_areAlike_6 : decode cX0_areAlike 6 = .ok (.if_icmp .eq 20, 3) := by decide +kernel
theorem dX0_areAlike_9 : decode cX0_areAlike 9 = .ok (.aload_n 0, 1) := by decide +kernel
theorem dX0_areAlike_10 : decode cX0_areAlike 10 = .ok (.iload_n 1, 1) := by decide +kernel
theorem dX0_areAlike_11 : decode cX0_areAlike 11 = .ok (.invokevirtual 61, 3) := by decide +kernel
theorem dX0_areAlike_14 : decode cX0_areAlike 14 = .ok (.aload_n 0, 1) := by decide +kernel
theorem dX0_areAlike_15 : decode cX0_areAlike 15 = .ok (.iload_n 2, 1) := by decide +kernel
theorem dX0_areAlike_16 : decode cX0_areAlike 16 = .ok (.invokevirtual 61, 3) := by decide +kernel
theorem dX0_areAlike_19 : decode cX0_areAlike 19 = .ok (.if_icmp .ne 7, 3) := by decide +kernel
theorem dX0_areAlike_22 : decode cX0_areAlike 22 = .ok (.iconst 1, 1) := by decide +kernel
theorem dX0_areAlike_23 : decode cX0_areAlike 23 = .ok (.goto 4, 3) := by decide +kernel
theorem dX0_areAlike_26 : decode cX0_areAlike 26 = .ok (.iconst 0, 1) := by decide +kernel
theorem dX0_areAlike_27 : decode cX0_areAlike 27 = .ok (.ireturn, 1) := by decide +kernel
theorem dX0_unequalPairs_0 : decode cX0_unequalPairs 0 = .ok (.iconst 0, 1) := by decide +kernel
theorem dX0_unequalPairs_1 : decode cX0_unequalPairs 1 = .ok (.istore_n 1, 1) := by decide +kernel
theorem dX0_unequalPairs_2 : decode cX0_unequalPairs 2 = .ok (.iconst 0, 1) := by decide +kernel
theorem dX0_unequalPairs_3 : decode cX0_unequalPairs 3 = .ok (.istore_n 2, 1) := by decide +kernel
theorem dX0_unequalPairs_4 : decode cX0_unequalPairs 4 = .ok (.iload_n 2, 1) := by decide +kernel
theorem dX0_unequalPairs_5 : decode cX0_unequalPairs 5 = .ok (.aload_n 0, 1) := by decide +kernel
theorem dX0_unequalPairs_6 : decode cX0_unequalPairs 6 = .ok (.getfield 39, 3) := by decide +kernel
theorem dX0_unequalPairs_9 : decode cX0_unequalPairs 9 = .ok (.if_icmp .ge 52, 3) := by decide +kernel
theorem dX0_unequalPairs_12 : decode cX0_unequalPairs 12 = .ok (.iload_n 2, 1) := by decide +kernel
theorem dX0_unequalPairs_13 : decode cX0_unequalPairs 13 = .ok (.iconst 1, 1) := by decide +kernel
theorem dX0_unequalPairs_14 : decode cX0_unequalPairs 14 = .ok (.iadd, 1) := by decide +kernel
theorem dX0_unequalPairs_15 : decode cX0_unequalPairs 15 = .ok (.istore_n 3, 1) := by decide +kernel
theorem dX0_unequalPairs_16 : decode cX0_unequalPairs 16 = .ok (.iload_n 3, 1) := by decide +kernel
theorem dX0_unequalPairs_17 : decode cX0_unequalPairs 17 = .ok (.aload_n 0, 1) := by decide +kernel
theorem dX0_unequalPairs_18 : decode cX0_unequalPairs 18 = .ok (.getfield 39, 3) := by decide +kernel
theorem dX0_unequalPairs_21 : decode cX0_unequalPairs 21 = .ok (.if_icmp .ge 34, 3) := by decide +kernel
theorem dX0_unequalPairs_24 : decode cX0_unequalPairs 24 = .ok (.aload_n 0, 1) := by decide +kernel
theorem dX0_unequalPairs_25 : decode cX0_unequalPairs 25 = .ok (.iload_n 2, 1) := by decide +kernel
theorem dX0_unequalPairs_26 : decode cX0_unequalPairs 26 = .ok (.iload_n 3, 1) := by decide +kernel
theorem dX0_unequalPairs_27 : decode cX0_unequalPairs 27 = .ok (.invokevirtual 73, 3) := by decide +kernel
theorem dX0_unequalPairs_30 : decode cX0_unequalPairs 30 = .ok (.ifCond .eq 19, 3) := by decide +kernel
theorem dX0_unequalPairs_33 : decode cX0_unequalPairs 33 = .ok (.aload_n 0, 1) := by decide +kernel
theorem dX0_unequalPairs_34 : decode cX0_unequalPairs 34 = .ok (.iload_n 2, 1) := by decide +kernel
theorem dX0_unequalPairs_35 : decode cX0_unequalPairs 35 = .ok (.invokevirtual 67, 3) := by decide +kernel
theorem dX0_unequalPairs_38 : decode cX0_unequalPairs 38 = .ok (.aload_n 0, 1) := by decide +kernel
theorem dX0_unequalPairs_39 : decode cX0_unequalPairs 39 = .ok (.iload_n 3, 1) := by decide +kernel
theorem dX0_unequalPairs_40 : decode cX0_unequalPairs 40 = .ok (.invokevirtual 67, 3) := by decide +kernel
theorem dX0_unequalPairs_43 : decode cX0_unequalPairs 43 = .ok (.if_icmp .eq 6, 3) := by decide +kernel
theorem dX0_unequalPairs_46 : decode cX0_unequalPairs 46 = .ok (.iinc 1 1, 3) := by decide +kernel
theorem dX0_unequalPairs_49 : decode cX0_unequalPairs 49 = .ok (.iinc 3 1, 3) := by decide +kernel
theorem dX0_unequalPairs_52 : decode cX0_unequalPairs 52 = .ok (.goto (-36), 3) := by decide +kernel
theorem dX0_unequalPairs_55 : decode cX0_unequalPairs 55 = .ok (.iinc 2 1, 3) := by decide +kernel
theorem dX0_unequalPairs_58 : decode cX0_unequalPairs 58 = .ok (.goto (-54), 3) := by decide +kernel
theorem dX0_unequalPairs_61 : decode cX0_unequalPairs 61 = .ok (.iload_n 1, 1) := by decide +kernel
theorem dX0_unequalPairs_62 : decode cX0_unequalPairs 62 = .ok (.ireturn, 1) := by decide +kernel
theorem dX0_ofOne_0 : decode cX0_ofOne 0 = .ok (.iconst 0, 1) := by decide +kernel
theorem dX0_ofOne_1 : decode cX0_ofOne 1 = .ok (.istore_n 3, 1) := by decide +kernel
theorem dX0_ofOne_2 : decode cX0_ofOne 2 = .ok (.iconst 0, 1) := by decide +kernel
theorem dX0_ofOne_3 : decode cX0_ofOne 3 = .ok (.istore 4, 2) := by decide +kernel
theorem dX0_ofOne_5 : decode cX0_ofOne 5 = .ok (.iload 4, 2) := by decide +kernel
theorem dX0_ofOne_7 : decode cX0_ofOne 7 = .ok (.aload_n 0, 1) := by decide +kernel
theorem dX0_ofOne_8 : decode cX0_ofOne 8 = .ok (.getfield 39, 3) := by decide +kernel
theorem dX0_ofOne_11 : decode cX0_ofOne 11 = .ok (.if_icmp .ge 30, 3) := by decide +kernel
theorem dX0_ofOne_14 : decode cX0_ofOne 14 = .ok (.aload_n 0, 1) := by decide +kernel
theorem dX0_ofOne_15 : decode cX0_ofOne 15 = .ok (.iload 4, 2) := by decide +kernel
theorem dX0_ofOne_17 : decode cX0_ofOne 17 = .ok (.invokevirtual 64, 3) := by decide +kernel
theorem dX0_ofOne_20 : decode cX0_ofOne 20 = .ok (.iload_n 1, 1) := by decide +kernel
theorem dX0_ofOne_21 : decode cX0_ofOne 21 = .ok (.if_icmp .ne 14, 3) := by decide +kernel
theorem dX0_ofOne_24 : decode cX0_ofOne 24 = .ok (.iload_n 3, 1) := by decide +kernel
theorem dX0_ofOne_25 : decode cX0_ofOne 25 = .ok (.iload_n 2, 1) := by decide +kernel
theorem dX0_ofOne_26 : decode cX0_ofOne 26 = .ok (.if_icmp .ne 6, 3) := by decide +kernel
theorem dX0_ofOne_29 : decode cX0_ofOne 29 = .ok (.iload 4, 2) := by decide +kernel
theorem dX0_ofOne_31 : decode cX0_ofOne 31 = .ok (.ireturn, 1) := by decide +kernel
theorem dX0_ofOne_32 : decode cX0_ofOne 32 = .ok (.iinc 3 1, 3) := by decide +kernel
theorem dX0_ofOne_35 : decode cX0_ofOne 35 = .ok (.iinc 4 1, 3) := by decide +kernel
theorem dX0_ofOne_38 : decode cX0_ofOne 38 = .ok (.goto (-33), 3) := by decide +kernel
theorem dX0_ofOne_41 : decode cX0_ofOne 41 = .ok (.iconst (-1), 1) := by decide +kernel
theorem dX0_ofOne_42 : decode cX0_ofOne 42 = .ok (.ireturn, 1) := by decide +kernel
def f_X1_sizeOf (b : Nat) (x : XS) (a0 : Int32) : Option (Int32) :=
    (f_X4_isKind a0).bind fun v1 =>
    if (v1 = 0 : Prop) then
      some 0
    else
      ((aget 4 (x (b + 2)) a0).bind fun v12 =>
      some v12)
set_option maxRecDepth 100000 in
set_option maxHeartbeats 4000000 in
theorem p_X1_sizeOf (l : Launch) (E : TE) {b : Nat} (hB_b : IsB b) (x m : XS) (g o : Int64) {a0 : Int32} {r : Int32} (hf : f_X1_sizeOf b x a0 = some r) : MG l E yX1_sizeOf cX1_sizeOf 2 (some .int) 1 [rf E (b + 1), .int a0] (Wd E x m g o) (Wd E x m g o) (some (.int r)) := by
  unfold f_X1_sizeOf at hf
  refine m_in (by decide) (Nat.le_of_ble_eq_true rfl) ?_
  intro p e s mi args below meth c H ls hx hb hr hlk hml hown hB hK hW hS hl
  have hl : lv_has ls 2 [(0, rf E (b + 1)), (1, .int a0)] := hl
  refine lv_iload_n hx hb dX1_sizeOf_0 rfl (lv_at hl 1 rfl) ?_
  obtain ⟨v1, e1, hf⟩ := ob2 hf
  refine c_SN (As := [.int a0]) (st1 := [.int v1]) (rest := []) (p_X4_isKind l E x m g o e1) (kc_X1_31 hB hK ⟨Nat.le_of_ble_eq_true rfl, Nat.le_of_ble_eq_true rfl⟩) hx hb hml hown hB hK hW hS ⟨Nat.le_refl 0, Nat.le_refl 0⟩ rfl hl.1 rfl (Nat.le_of_ble_eq_true rfl) rfl dX1_sizeOf_1 (fun H locs hW hS => ?_)
  refine lv_if_eq (tgt := 16) hx hb dX1_sizeOf_4 (by decide) (fun c4 => ?_) (fun c4 => ?_)
  · rw [if_pos c4] at hf
    refine lv_iconst (v := 0) hx hb dX1_sizeOf_16 (by decide) ?_
    cases hf
    exact e_i hx hb hr hlk hW hS dX1_sizeOf_17
  · rw [if_neg c4] at hf
    refine lv_aload_n hx hb dX1_sizeOf_7 rfl (lv_at hl 0 rfl) ?_
    refine gf_X1_9 hx hb hB hK hown hW hB_b dX1_sizeOf_8 ?_
    refine lv_iload_n hx hb dX1_sizeOf_11 rfl (lv_at hl 1 rfl) ?_
    obtain ⟨v12, e12, hf⟩ := ob2 hf
    refine r_iald hx hb hK hW (hB_b.l8 (by decide)) (cB_2 hB_b) e12 dX1_sizeOf_12 ?_
    refine lv_goto (tgt := 17) hx hb dX1_sizeOf_13 (by decide) ?_
    cases hf
    exact e_i hx hb hr hlk hW hS dX1_sizeOf_17
def f_X1_copyFrom (b : Nat) (b2 : Nat) (x : XS) : Option (XS) :=
    (some (cpA x (b2 + 2) (b + 2) 4)).bind fun x8 =>
    (some (cpA x8 (b2 + 3) (b + 3) 24)).bind fun x19 =>
    (some (cpA x19 (b2 + 4) (b + 4) 24)).bind fun x30 =>
    (some (cpA x30 (b2 + 5) (b + 5) 24)).bind fun x41 =>
    (some (cpA x41 (b2 + 6) (b + 6) 24)).bind fun x52 =>
    some x52
set_option maxRecDepth 100000 in
set_option maxHeartbeats 4000000 in
theorem p_X1_copyFrom (l : Launch) (E : TE) {b : Nat} (hB_b : IsB b) {b2 : Nat} (hB_b2 : IsB b2) (x m : XS) (g o : Int64) {xr : XS} (hf : f_X1_copyFrom b b2 x = some xr) : MG l E yX1_copyFrom cX1_copyFrom 2 none 3 [rf E (b + 1), rf E (b2 + 1)] (Wd E x m g o) (Wd E xr m g o) none := by
  unfold f_X1_copyFrom at hf
  refine m_in (by decide) (Nat.le_of_ble_eq_true rfl) ?_
  intro p e s mi args below meth c H ls hx hb hr hlk hml hown hB hK hW hS hl
  have hl : lv_has ls 2 [(0, rf E (b + 1)), (1, rf E (b2 + 1))] := hl
  refine lv_aload_n hx hb dX1_copyFrom_0 rfl (lv_at hl 1 rfl) ?_
  refine gf_X1_9 hx hb hB hK hown hW hB_b2 dX1_copyFrom_1 ?_
  refine lv_aload_n hx hb dX1_copyFrom_4 rfl (lv_at hl 0 rfl) ?_
  refine gf_X1_9 hx hb hB hK hown hW hB_b dX1_copyFrom_5 ?_
  obtain ⟨x8, e8, hf⟩ := ob hf
  have p8 := p_X4_copyAll l E (k1 := (b2 + 2)) (k2 := (b + 2)) (N := 4) (by decide) (hB_b2.lt (by decide)) (hB_b.lt (by decide)) (m := m) (g := g) (o := o) (fun _ => cB_2 hB_b2) (fun _ => cB_2 hB_b) x
  rw [← e8] at p8
  refine c_SN (As := [rf E (b2 + 2), rf E (b + 2)]) (st1 := []) (rest := []) (p8) (kc_X1_27 hB hK ⟨Nat.le_of_ble_eq_true rfl, Nat.le_of_ble_eq_true rfl⟩) hx hb hml hown hB hK hW hS ⟨Nat.le_refl 0, Nat.le_refl 0⟩ rfl hl.1 rfl (Nat.le_of_ble_eq_true rfl) rfl dX1_copyFrom_8 (fun H locs hW hS => ?_)
  refine lv_aload_n hx hb dX1_copyFrom_11 rfl (lv_at hl 1 rfl) ?_
  refine gf_X1_15 hx hb hB hK hown hW hB_b2 dX1_copyFrom_12 ?_
  refine lv_aload_n hx hb dX1_copyFrom_15 rfl (lv_at hl 0 rfl) ?_
  refine gf_X1_15 hx hb hB hK hown hW hB_b dX1_copyFrom_16 ?_
  obtain ⟨x19, e19, hf⟩ := ob hf
  have p19 := p_X4_copyAll l E (k1 := (b2 + 3)) (k2 := (b + 3)) (N := 24) (by decide) (hB_b2.lt (by decide)) (hB_b.lt (by decide)) (m := m) (g := g) (o := o) (fun _ => cB_3 hB_b2) (fun _ => cB_3 hB_b) x8
  rw [← e19] at p19
  refine c_SN (As := [rf E (b2 + 3), rf E (b + 3)]) (st1 := []) (rest := []) (p19) (kc_X1_27 hB hK ⟨Nat.le_of_ble_eq_true rfl, Nat.le_of_ble_eq_true rfl⟩) hx hb hml hown hB hK hW hS ⟨Nat.le_refl 0, Nat.le_refl 0⟩ rfl hl.1 rfl (Nat.le_of_ble_eq_true rfl) rfl dX1_copyFrom_19 (fun H locs hW hS => ?_)
  refine lv_aload_n hx hb dX1_copyFrom_22 rfl (lv_at hl 1 rfl) ?_
  refine gf_X1_18 hx hb hB hK hown hW hB_b2 dX1_copyFrom_23 ?_
  refine lv_aload_n hx hb dX1_copyFrom_26 rfl (lv_at hl 0 rfl) ?_
  refine gf_X1_18 hx hb hB hK hown hW hB_b dX1_copyFrom_27 ?_
  obtain ⟨x30, e30, hf⟩ := ob hf
  have p30 := p_X4_copyAll l E (k1 := (b2 + 4)) (k2 := (b + 4)) (N := 24) (by decide) (hB_b2.lt (by decide)) (hB_b.lt (by decide)) (m := m) (g := g) (o := o) (fun _ => cB_4 hB_b2) (fun _ => cB_4 hB_b) x19
  rw [← e30] at p30
  refine c_SN (As := [rf E (b2 + 4), rf E (b + 4)]) (st1 := []) (rest := []) (p30) (kc_X1_27 hB hK ⟨Nat.le_of_ble_eq_true rfl, Nat.le_of_ble_eq_true rfl⟩) hx hb hml hown hB hK hW hS ⟨Nat.le_refl 0, Nat.le_refl 0⟩ rfl hl.1 rfl (Nat.le_of_ble_eq_true rfl) rfl dX1_copyFrom_30 (fun H locs hW hS => ?_)
  refine lv_aload_n hx hb dX1_copyFrom_33 rfl (lv_at hl 1 rfl) ?_
  refine gf_X1_21 hx hb hB hK hown hW hB_b2 dX1_copyFrom_34 ?_
  refine lv_aload_n hx hb dX1_copyFrom_37 rfl (lv_at hl 0 rfl) ?_
  refine gf_X1_21 hx hb hB hK hown hW hB_b dX1_copyFrom_38 ?_
  obtain ⟨x41, e41, hf⟩ := ob hf
  have p41 := p_X4_copyAll l E (k1 := (b2 + 5)) (k2 := (b + 5)) (N := 24) (by decide) (hB_b2.lt (by decide)) (hB_b.lt (by decide)) (m := m) (g := g) (o := o) (fun _ => cB_5 hB_b2) (fun _ => cB_5 hB_b) x30
  rw [← e41] at p41
  refine c_SN (As := [rf E (b2 + 5), rf E (b + 5)]) (st1 := []) (rest := []) (p41) (kc_X1_27 hB hK ⟨Nat.le_of_ble_eq_true rfl, Nat.le_of_ble_eq_true rfl⟩) hx hb hml hown hB hK hW hS ⟨Nat.le_refl 0, Nat.le_refl 0⟩ rfl hl.1 rfl (Nat.le_of_ble_eq_true rfl) rfl dX1_copyFrom_41 (fun H locs hW hS => ?_)
  refine lv_aload_n hx hb dX1_copyFrom_44 rfl (lv_at hl 1 rfl) ?_
  refine gf_X1_24 hx hb hB hK hown hW hB_b2 dX1_copyFrom_45 ?_
  refine lv_aload_n hx hb dX1_copyFrom_48 rfl (lv_at hl 0 rfl) ?_
  refine gf_X1_24 hx hb hB hK hown hW hB_b dX1_copyFrom_49 ?_
  obtain ⟨x52, e52, hf⟩ := ob hf
  have p52 := p_X4_copyAll l E (k1 := (b2 + 6)) (k2 := (b + 6)) (N := 24) (by decide) (hB_b2.lt (by decide)) (hB_b.lt (by decide)) (m := m) (g := g) (o := o) (fun _ => cB_6 hB_b2) (fun _ => cB_6 hB_b) x41
  rw [← e52] at p52
  refine c_SN (As := [rf E (b2 + 6), rf E (b + 6)]) (st1 := []) (rest := []) (p52) (kc_X1_27 hB hK ⟨Nat.le_of_ble_eq_true rfl, Nat.le_of_ble_eq_true rfl⟩) hx hb hml hown hB hK hW hS ⟨Nat.le_refl 0, Nat.le_refl 0⟩ rfl hl.1 rfl (Nat.le_of_ble_eq_true rfl) rfl dX1_copyFrom_52 (fun H locs hW hS => ?_)
  cases hf
  exact e_v hx hb hr hlk hW hS dX1_copyFrom_55
def f_X0_copyFrom (b : Nat) (b2 : Nat) (x : XS) : Option (XS) :=
    (some (ux x (b + 7) 0 (x (b2 + 7) 0))).bind fun x5 =>
    (some (cpA x5 (b2 + 8) (b + 8) 24)).bind fun x16 =>
    (some (cpA x16 (b2 + 9) (b + 9) 24)).bind fun x27 =>
    (some (cpA x27 (b2 + 10) (b + 10) 24)).bind fun x38 =>
    (some (cpA x38 (b2 + 11) (b + 11) 24)).bind fun x49 =>
    (some (cpA x49 (b2 + 12) (b + 12) 24)).bind fun x60 =>
    (some (cpA x60 (b2 + 13) (b + 13) 24)).bind fun x71 =>
    (some (cpA x71 (b2 + 14) (b + 14) 24)).bind fun x82 =>
    (some (cpA x82 (b2 + 15) (b + 15) 24)).bind fun x93 =>
    (some (cpA x93 (b2 + 16) (b + 16) 24)).bind fun x104 =>
    some x104
set_option maxRecDepth 100000 in
set_option maxHeartbeats 4000000 in
theorem p_X0_copyFrom (l : Launch) (E : TE) {b : Nat} (hB_b : IsB b) {b2 : Nat} (hB_b2 : IsB b2) (x m : XS) (g o : Int64) {xr : XS} (hf : f_X0_copyFrom b b2 x = some xr) : MG l E yX0_copyFrom cX0_copyFrom 2 none 3 [rf E (b + 7), rf E (b2 + 7)] (Wd E x m g o) (Wd E xr m g o) none := by
  unfold f_X0_copyFrom at hf
  refine m_in (by decide) (Nat.le_of_ble_eq_true rfl) ?_
  intro p e s mi args below meth c H ls hx hb hr hlk hml hown hB hK hW hS hl
  have hl : lv_has ls 2 [(0, rf E (b + 7)), (1, rf E (b2 + 7))] := hl
  refine lv_aload_n hx hb dX0_copyFrom_0 rfl (lv_at hl 0 rfl) ?_
  refine lv_aload_n hx hb dX0_copyFrom_1 rfl (lv_at hl 1 rfl) ?_
  refine gf_X0_39 hx hb hB hK hown hW hB_b2 dX0_copyFrom_2 ?_
  obtain ⟨x5, e5, hf⟩ := ob hf
  refine pf_X0_39 hx hb hB hK hown hW hS hB_b e5 dX0_copyFrom_5 (fun H locs hW hS => ?_)
  refine lv_aload_n hx hb dX0_copyFrom_8 rfl (lv_at hl 1 rfl) ?_
  refine gf_X0_9 hx hb hB hK hown hW hB_b2 dX0_copyFrom_9 ?_
  refine lv_aload_n hx hb dX0_copyFrom_12 rfl (lv_at hl 0 rfl) ?_
  refine gf_X0_9 hx hb hB hK hown hW hB_b dX0_copyFrom_13 ?_
  obtain ⟨x16, e16, hf⟩ := ob hf
  have p16 := p_X4_copyAll l E (k1 := (b2 + 8)) (k2 := (b + 8)) (N := 24) (by decide) (hB_b2.lt (by decide)) (hB_b.lt (by decide)) (m := m) (g := g) (o := o) (fun _ => cB_8 hB_b2) (fun _ => cB_8 hB_b) x5
  rw [← e16] at p16
  refine c_SN (As := [rf E (b2 + 8), rf E (b + 8)]) (st1 := []) (rest := []) (p16) (kc_X0_43 hB hK ⟨Nat.le_of_ble_eq_true rfl, Nat.le_of_ble_eq_true rfl⟩) hx hb hml hown hB hK hW hS ⟨Nat.le_refl 0, Nat.le_refl 0⟩ rfl hl.1 rfl (Nat.le_of_ble_eq_true rfl) rfl dX0_copyFrom_16 (fun H locs hW hS => ?_)
  refine lv_aload_n hx hb dX0_copyFrom_19 rfl (lv_at hl 1 rfl) ?_
  refine gf_X0_15 hx hb hB hK hown hW hB_b2 dX0_copyFrom_20 ?_
  refine lv_aload_n hx hb dX0_copyFrom_23 rfl (lv_at hl 0 rfl) ?_
  refine gf_X0_15 hx hb hB hK hown hW hB_b dX0_copyFrom_24 ?_
  obtain ⟨x27, e27, hf⟩ := ob hf
  have p27 := p_X4_copyAll l E (k1 := (b2 + 9)) (k2 := (b + 9)) (N := 24) (by decide) (hB_b2.lt (by decide)) (hB_b.lt (by decide)) (m := m) (g := g) (o := o) (fun _ => cB_9 hB_b2) (fun _ => cB_9 hB_b) x16
  rw [← e27] at p27
  refine c_SN (As := [rf E (b2 + 9), rf E (b + 9)]) (st1 := []) (rest := []) (p27) (kc_X0_43 hB hK ⟨Nat.le_of_ble_eq_true rfl, Nat.le_of_ble_eq_true rfl⟩) hx hb hml hown hB hK hW hS ⟨Nat.le_refl 0, Nat.le_refl 0⟩ rfl hl.1 rfl (Nat.le_of_ble_eq_true rfl) rfl dX0_copyFrom_27 (fun H locs hW hS => ?_)
  refine lv_aload_n hx hb dX0_copyFrom_30 rfl (lv_at hl 1 rfl) ?_
  refine gf_X0_18 hx hb hB hK hown hW hB_b2 dX0_copyFrom_31 ?_
  refine lv_aload_n hx hb dX0_copyFrom_34 rfl (lv_at hl 0 rfl) ?_
  refine gf_X0_18 hx hb hB hK hown hW hB_b dX0_copyFrom_35 ?_
  obtain ⟨x38, e38, hf⟩ := ob hf
  have p38 := p_X4_copyAll l E (k1 := (b2 + 10)) (k2 := (b + 10)) (N := 24) (by decide) (hB_b2.lt (by decide)) (hB_b.lt (by decide)) (m := m) (g := g) (o := o) (fun _ => cB_10 hB_b2) (fun _ => cB_10 hB_b) x27
  rw [← e38] at p38
  refine c_SN (As := [rf E (b2 + 10), rf E (b + 10)]) (st1 := []) (rest := []) (p38) (kc_X0_43 hB hK ⟨Nat.le_of_ble_eq_true rfl, Nat.le_of_ble_eq_true rfl⟩) hx hb hml hown hB hK hW hS ⟨Nat.le_refl 0, Nat.le_refl 0⟩ rfl hl.1 rfl (Nat.le_of_ble_eq_true rfl) rfl dX0_copyFrom_38 (fun H locs hW hS => ?_)
  refine lv_aload_n hx hb dX0_copyFrom_41 rfl (lv_at hl 1 rfl) ?_
  refine gf_X0_21 hx hb hB hK hown hW hB_b2 dX0_copyFrom_42 ?_
  refine lv_aload_n hx hb dX0_copyFrom_45 rfl (lv_at hl 0 rfl) ?_
  refine gf_X0_21 hx hb hB hK hown hW hB_b dX0_copyFrom_46 ?_
  obtain ⟨x49, e49, hf⟩ := ob hf
  have p49 := p_X4_copyAll l E (k1 := (b2 + 11)) (k2 := (b + 11)) (N := 24) (by decide) (hB_b2.lt (by decide)) (hB_b.lt (by decide)) (m := m) (g := g) (o := o) (fun _ => cB_11 hB_b2) (fun _ => cB_11 hB_b) x38
  rw [← e49] at p49
  refine c_SN (As := [rf E (b2 + 11), rf E (b + 11)]) (st1 := []) (rest := []) (p49) (kc_X0_43 hB hK ⟨Nat.le_of_ble_eq_true rfl, Nat.le_of_ble_eq_true rfl⟩) hx hb hml hown hB hK hW hS ⟨Nat.le_refl 0, Nat.le_refl 0⟩ rfl hl.1 rfl (Nat.le_of_ble_eq_true rfl) rfl dX0_copyFrom_49 (fun H locs hW hS => ?_)
  refine lv_aload_n hx hb dX0_copyFrom_52 rfl (lv_at hl 1 rfl) ?_
  refine gf_X0_24 hx hb hB hK hown hW hB_b2 dX0_copyFrom_53 ?_
  refine lv_aload_n hx hb dX0_copyFrom_56 rfl (lv_at hl 0 rfl) ?_
  refine gf_X0_24 hx hb hB hK hown hW hB_b dX0_copyFrom_57 ?_
  obtain ⟨x60, e60, hf⟩ := ob hf
  have p60 := p_X4_copyAll l E (k1 := (b2 + 12)) (k2 := (b + 12)) (N := 24) (by decide) (hB_b2.lt (by decide)) (hB_b.lt (by decide)) (m := m) (g := g) (o := o) (fun _ => cB_12 hB_b2) (fun _ => cB_12 hB_b) x49
  rw [← e60] at p60
  refine c_SN (As := [rf E (b2 + 12), rf E (b + 12)]) (st1 := []) (rest := []) (p60) (kc_X0_43 hB hK ⟨Nat.le_of_ble_eq_true rfl, Nat.le_of_ble_eq_true rfl⟩) hx hb hml hown hB hK hW hS ⟨Nat.le_refl 0, Nat.le_refl 0⟩ rfl hl.1 rfl (Nat.le_of_ble_eq_true rfl) rfl dX0_copyFrom_60 (fun H locs hW hS => ?_)
  refine lv_aload_n hx hb dX0_copyFrom_63 rfl (lv_at hl 1 rfl) ?_
  refine gf_X0_27 hx hb hB hK hown hW hB_b2 dX0_copyFrom_64 ?_
  refine lv_aload_n hx hb dX0_copyFrom_67 rfl (lv_at hl 0 rfl) ?_
  refine gf_X0_27 hx hb hB hK hown hW hB_b dX0_copyFrom_68 ?_
  obtain ⟨x71, e71, hf⟩ := ob hf
  have p71 := p_X4_copyAll l E (k1 := (b2 + 13)) (k2 := (b + 13)) (N := 24) (by decide) (hB_b2.lt (by decide)) (hB_b.lt (by decide)) (m := m) (g := g) (o := o) (fun _ => cB_13 hB_b2) (fun _ => cB_13 hB_b) x60
  rw [← e71] at p71
  refine c_SN (As := [rf E (b2 + 13), rf E (b + 13)]) (st1 := []) (rest := []) (p71) (kc_X0_43 hB hK ⟨Nat.le_of_ble_eq_true rfl, Nat.le_of_ble_eq_true rfl⟩) hx hb hml hown hB hK hW hS ⟨Nat.le_refl 0, Nat.le_refl 0⟩ rfl hl.1 rfl (Nat.le_of_ble_eq_true rfl) rfl dX0_copyFrom_71 (fun H locs hW hS => ?_)
  refine lv_aload_n hx hb dX0_copyFrom_74 rfl (lv_at hl 1 rfl) ?_
  refine gf_X0_30 hx hb hB hK hown hW hB_b2 dX0_copyFrom_75 ?_
  refine lv_aload_n hx hb dX0_copyFrom_78 rfl (lv_at hl 0 rfl) ?_
  refine gf_X0_30 hx hb hB hK hown hW hB_b dX0_copyFrom_79 ?_
  obtain ⟨x82, e82, hf⟩ := ob hf
  have p82 := p_X4_copyAll l E (k1 := (b2 + 14)) (k2 := (b + 14)) (N := 24) (by decide) (hB_b2.lt (by decide)) (hB_b.lt (by decide)) (m := m) (g := g) (o := o) (fun _ => cB_14 hB_b2) (fun _ => cB_14 hB_b) x71
  rw [← e82] at p82
  refine c_SN (As := [rf E (b2 + 14), rf E (b + 14)]) (st1 := []) (rest := []) (p82) (kc_X0_43 hB hK ⟨Nat.le_of_ble_eq_true rfl, Nat.le_of_ble_eq_true rfl⟩) hx hb hml hown hB hK hW hS ⟨Nat.le_refl 0, Nat.le_refl 0⟩ rfl hl.1 rfl (Nat.le_of_ble_eq_true rfl) rfl dX0_copyFrom_82 (fun H locs hW hS => ?_)
  refine lv_aload_n hx hb dX0_copyFrom_85 rfl (lv_at hl 1 rfl) ?_
  refine gf_X0_33 hx hb hB hK hown hW hB_b2 dX0_copyFrom_86 ?_
  refine lv_aload_n hx hb dX0_copyFrom_89 rfl (lv_at hl 0 rfl) ?_
  refine gf_X0_33 hx hb hB hK hown hW hB_b dX0_copyFrom_90 ?_
  obtain ⟨x93, e93, hf⟩ := ob hf
  have p93 := p_X4_copyAll l E (k1 := (b2 + 15)) (k2 := (b + 15)) (N := 24) (by decide) (hB_b2.lt (by decide)) (hB_b.lt (by decide)) (m := m) (g := g) (o := o) (fun _ => cB_15 hB_b2) (fun _ => cB_15 hB_b) x82
  rw [← e93] at p93
  refine c_SN (As := [rf E (b2 + 15), rf E (b + 15)]) (st1 := []) (rest := []) (p93) (kc_X0_43 hB hK ⟨Nat.le_of_ble_eq_true rfl, Nat.le_of_ble_eq_true rfl⟩) hx hb hml hown hB hK hW hS ⟨Nat.le_refl 0, Nat.le_refl 0⟩ rfl hl.1 rfl (Nat.le_of_ble_eq_true rfl) rfl dX0_copyFrom_93 (fun H locs hW hS => ?_)
  refine lv_aload_n hx hb dX0_copyFrom_96 rfl (lv_at hl 1 rfl) ?_
  refine gf_X0_36 hx hb hB hK hown hW hB_b2 dX0_copyFrom_97 ?_
  refine lv_aload_n hx hb dX0_copyFrom_100 rfl (lv_at hl 0 rfl) ?_
  refine gf_X0_36 hx hb hB hK hown hW hB_b dX0_copyFrom_101 ?_
  obtain ⟨x104, e104, hf⟩ := ob hf
  have p104 := p_X4_copyAll l E (k1 := (b2 + 16)) (k2 := (b + 16)) (N := 24) (by decide) (hB_b2.lt (by decide)) (hB_b.lt (by decide)) (m := m) (g := g) (o := o) (fun _ => cB_16 hB_b2) (fun _ => cB_16 hB_b) x93
  rw [← e104] at p104
  refine c_SN (As := [rf E (b2 + 16), rf E (b + 16)]) (st1 := []) (rest := []) (p104) (kc_X0_43 hB hK ⟨Nat.le_of_ble_eq_true rfl, Nat.le_of_ble_eq_true rfl⟩) hx hb hml hown hB hK hW hS ⟨Nat.le_refl 0, Nat.le_refl 0⟩ rfl hl.1 rfl (Nat.le_of_ble_eq_true rfl) rfl dX0_copyFrom_104 (fun H locs hW hS => ?_)
  cases hf
  exact e_v hx hb hr hlk hW hS dX0_copyFrom_107
def f_X2_copyFrom (b : Nat) (b2 : Nat) (x : XS) : Option (XS) :=
    (some (ux x (b + 17) 0 (x (b2 + 17) 0))).bind fun x5 =>
    (some (cpA x5 (b2 + 18) (b + 18) 24)).bind fun x16 =>
    (some (cpA x16 (b2 + 19) (b + 19) 24)).bind fun x27 =>
    (some (cpA x27 (b2 + 20) (b + 20) 24)).bind fun x38 =>
    (some (cpA x38 (b2 + 21) (b + 21) 12)).bind fun x49 =>
    some x49
set_option maxRecDepth 100000 in
set_option maxHeartbeats 4000000 in
theorem p_X2_copyFrom (l : Launch) (E : TE) {b : Nat} (hB_b : IsB b) {b2 : Nat} (hB_b2 : IsB b2) (x m : XS) (g o : Int64) {xr : XS} (hf : f_X2_copyFrom b b2 x = some xr) : MG l E yX2_copyFrom cX2_copyFrom 2 none 3 [rf E (b + 17), rf E (b2 + 17)] (Wd E x m g o) (Wd E xr m g o) none := by
  unfold f_X2_copyFrom at hf
  refine m_in (by decide) (Nat.le_of_ble_eq_true rfl) ?_
  intro p e s mi args below meth c H ls hx hb hr hlk hml hown hB hK hW hS hl
  have hl : lv_has ls 2 [(0, rf E (b + 17)), (1, rf E (b2 + 17))] := hl
  refine lv_aload_n hx hb dX2_copyFrom_0 rfl (lv_at hl 0 rfl) ?_
  refine lv_aload_n hx hb dX2_copyFrom_1 rfl (lv_at hl 1 rfl) ?_
  refine gf_X2_30 hx hb hB hK hown hW hB_b2 dX2_copyFrom_2 ?_
  obtain ⟨x5, e5, hf⟩ := ob hf
  refine pf_X2_30 hx hb hB hK hown hW hS hB_b e5 dX2_copyFrom_5 (fun H locs hW hS => ?_)
  refine lv_aload_n hx hb dX2_copyFrom_8 rfl (lv_at hl 1 rfl) ?_
  refine gf_X2_9 hx hb hB hK hown hW hB_b2 dX2_copyFrom_9 ?_
  refine lv_aload_n hx hb dX2_copyFrom_12 rfl (lv_at hl 0 rfl) ?_
  refine gf_X2_9 hx hb hB hK hown hW hB_b dX2_copyFrom_13 ?_
  obtain ⟨x16, e16, hf⟩ := ob hf
  have p16 := p_X4_copyAll l E (k1 := (b2 + 18)) (k2 := (b + 18)) (N := 24) (by decide) (hB_b2.lt (by decide)) (hB_b.lt (by decide)) (m := m) (g := g) (o := o) (fun _ => cB_18 hB_b2) (fun _ => cB_18 hB_b) x5
  rw [← e16] at p16
  refine c_SN (As := [rf E (b2 + 18), rf E (b + 18)]) (st1 := []) (rest := []) (p16) (kc_X2_34 hB hK ⟨Nat.le_of_ble_eq_true rfl, Nat.le_of_ble_eq_true rfl⟩) hx hb hml hown hB hK hW hS ⟨Nat.le_refl 0, Nat.le_refl 0⟩ rfl hl.1 rfl (Nat.le_of_ble_eq_true rfl) rfl dX2_copyFrom_16 (fun H locs hW hS => ?_)
  refine lv_aload_n hx hb dX2_copyFrom_19 rfl (lv_at hl 1 rfl) ?_
  refine gf_X2_15 hx hb hB hK hown hW hB_b2 dX2_copyFrom_20 ?_
  refine lv_aload_n hx hb dX2_copyFrom_23 rfl (lv_at hl 0 rfl) ?_
  refine gf_X2_15 hx hb hB hK hown hW hB_b dX2_copyFrom_24 ?_
  obtain ⟨x27, e27, hf⟩ := ob hf
  have p27 := p_X4_copyAll l E (k1 := (b2 + 19)) (k2 := (b + 19)) (N := 24) (by decide) (hB_b2.lt (by decide)) (hB_b.lt (by decide)) (m := m) (g := g) (o := o) (fun _ => cB_19 hB_b2) (fun _ => cB_19 hB_b) x16
  rw [← e27] at p27
  refine c_SN (As := [rf E (b2 + 19), rf E (b + 19)]) (st1 := []) (rest := []) (p27) (kc_X2_34 hB hK ⟨Nat.le_of_ble_eq_true rfl, Nat.le_of_ble_eq_true rfl⟩) hx hb hml hown hB hK hW hS ⟨Nat.le_refl 0, Nat.le_refl 0⟩ rfl hl.1 rfl (Nat.le_of_ble_eq_true rfl) rfl dX2_copyFrom_27 (fun H locs hW hS => ?_)
  refine lv_aload_n hx hb dX2_copyFrom_30 rfl (lv_at hl 1 rfl) ?_
  refine gf_X2_18 hx hb hB hK hown hW hB_b2 dX2_copyFrom_31 ?_
  refine lv_aload_n hx hb dX2_copyFrom_34 rfl (lv_at hl 0 rfl) ?_
  refine gf_X2_18 hx hb hB hK hown hW hB_b dX2_copyFrom_35 ?_
  obtain ⟨x38, e38, hf⟩ := ob hf
  have p38 := p_X4_copyAll l E (k1 := (b2 + 20)) (k2 := (b + 20)) (N := 24) (by decide) (hB_b2.lt (by decide)) (hB_b.lt (by decide)) (m := m) (g := g) (o := o) (fun _ => cB_20 hB_b2) (fun _ => cB_20 hB_b) x27
  rw [← e38] at p38
  refine c_SN (As := [rf E (b2 + 20), rf E (b + 20)]) (st1 := []) (rest := []) (p38) (kc_X2_34 hB hK ⟨Nat.le_of_ble_eq_true rfl, Nat.le_of_ble_eq_true rfl⟩) hx hb hml hown hB hK hW hS ⟨Nat.le_refl 0, Nat.le_refl 0⟩ rfl hl.1 rfl (Nat.le_of_ble_eq_true rfl) rfl dX2_copyFrom_38 (fun H locs hW hS => ?_)
  refine lv_aload_n hx hb dX2_copyFrom_41 rfl (lv_at hl 1 rfl) ?_
  refine gf_X2_21 hx hb hB hK hown hW hB_b2 dX2_copyFrom_42 ?_
  refine lv_aload_n hx hb dX2_copyFrom_45 rfl (lv_at hl 0 rfl) ?_
  refine gf_X2_21 hx hb hB hK hown hW hB_b dX2_copyFrom_46 ?_
  obtain ⟨x49, e49, hf⟩ := ob hf
  have p49 := p_X4_copyAll l E (k1 := (b2 + 21)) (k2 := (b + 21)) (N := 12) (by decide) (hB_b2.lt (by decide)) (hB_b.lt (by decide)) (m := m) (g := g) (o := o) (fun _ => cB_21 hB_b2) (fun _ => cB_21 hB_b) x38
  rw [← e49] at p49
  refine c_SN (As := [rf E (b2 + 21), rf E (b + 21)]) (st1 := []) (rest := []) (p49) (kc_X2_34 hB hK ⟨Nat.le_of_ble_eq_true rfl, Nat.le_of_ble_eq_true rfl⟩) hx hb hml hown hB hK hW hS ⟨Nat.le_refl 0, Nat.le_refl 0⟩ rfl hl.1 rfl (Nat.le_of_ble_eq_true rfl) rfl dX2_copyFrom_49 (fun H locs hW hS => ?_)
  cases hf
  exact e_v hx hb hr hlk hW hS dX2_copyFrom_52
def f_X1_add (b : Nat) (x : XS) (a0 : Int32) (a1 : Int32) (a2 : Int32) (a3 : Int32) : Option (Int32 × XS) :=
    (f_X4_isKind a0).bind fun v1 =>
    if (v1 = 0 : Prop) then
      some ((-1), x)
    else
      ((aget 4 (x (b + 2)) a0).bind fun v12 =>
      if (v12 < 6 : Prop) then
        ((aget 4 (x (b + 2)) a0).bind fun v25 =>
        (some (((a0 * 6) + v25))).bind fun v35 =>
        (aset x (b + 3) 24 v35 a1).bind fun x44 =>
        (aset x44 (b + 4) 24 v35 a2).bind fun x52 =>
        (aset x52 (b + 5) 24 v35 a3).bind fun x61 =>
        (aset x61 (b + 6) 24 v35 1).bind fun x69 =>
        (aset x69 (b + 2) 4 a0 (v25 + 1)).bind fun x79 =>
        some (v25, x79))
      else
        some ((-1), x))
set_option maxRecDepth 100000 in
set_option maxHeartbeats 4000000 in
theorem p_X1_add (l : Launch) (E : TE) {b : Nat} (hB_b : IsB b) (x m : XS) (g o : Int64) {a0 : Int32} {a1 : Int32} {a2 : Int32} {a3 : Int32} {r : Int32} {xr : XS} (hf : f_X1_add b x a0 a1 a2 a3 = some (r, xr)) : MG l E yX1_add cX1_add 7 (some .int) 1 [rf E (b + 1), .int a0, .int a1, .int a2, .int a3] (Wd E x m g o) (Wd E xr m g o) (some (.int r)) := by
  unfold f_X1_add at hf
  refine m_in (by decide) (Nat.le_of_ble_eq_true rfl) ?_
  intro p e s mi args below meth c H ls hx hb hr hlk hml hown hB hK hW hS hl
  have hl : lv_has ls 7 [(0, rf E (b + 1)), (1, .int a0), (2, .int a1), (3, .int a2), (4, .int a3)] := hl
  refine lv_iload_n hx hb dX1_add_0 rfl (lv_at hl 1 rfl) ?_
  obtain ⟨v1, e1, hf⟩ := ob2 hf
  refine c_SN (As := [.int a0]) (st1 := [.int v1]) (rest := []) (p_X4_isKind l E x m g o e1) (kc_X1_31 hB hK ⟨Nat.le_of_ble_eq_true rfl, Nat.le_of_ble_eq_true rfl⟩) hx hb hml hown hB hK hW hS ⟨Nat.le_refl 0, Nat.le_refl 0⟩ rfl hl.1 rfl (Nat.le_of_ble_eq_true rfl) rfl dX1_add_1 (fun H locs hW hS => ?_)
  refine lv_if_eq (tgt := 18) hx hb dX1_add_4 (by decide) (fun c4 => ?_) (fun c4 => ?_)
  · rw [if_pos c4] at hf
    refine lv_iconst (v := (-1)) hx hb dX1_add_18 (by decide) ?_
    cases hf
    exact e_i hx hb hr hlk hW hS dX1_add_19
  · rw [if_neg c4] at hf
    refine lv_aload_n hx hb dX1_add_7 rfl (lv_at hl 0 rfl) ?_
    refine gf_X1_9 hx hb hB hK hown hW hB_b dX1_add_8 ?_
    refine lv_iload_n hx hb dX1_add_11 rfl (lv_at hl 1 rfl) ?_
    obtain ⟨v12, e12, hf⟩ := ob2 hf
    refine r_iald hx hb hK hW (hB_b.l8 (by decide)) (cB_2 hB_b) e12 dX1_add_12 ?_
    refine lv_bipush (v := 6) hx hb dX1_add_13 (by decide) ?_
    refine lv_icmp_lt (tgt := 20) hx hb dX1_add_15 (by decide) (fun c15 => ?_) (fun c15 => ?_)
    · rw [if_pos c15] at hf
      refine lv_aload_n hx hb dX1_add_20 rfl (lv_at hl 0 rfl) ?_
      refine gf_X1_9 hx hb hB hK hown hW hB_b dX1_add_21 ?_
      refine lv_iload_n hx hb dX1_add_24 rfl (lv_at hl 1 rfl) ?_
      obtain ⟨v25, e25, hf⟩ := ob2 hf
      refine r_iald hx hb hK hW (hB_b.l8 (by decide)) (cB_2 hB_b) e25 dX1_add_25 ?_
      refine lv_istore (lv' := [(5, .int v25), (0, rf E (b + 1)), (1, .int a0), (2, .int a1), (3, .int a2), (4, .int a3)]) hx hb dX1_add_26 hl (by decide) rfl (fun ls hl => ?_)
      refine lv_iload_n hx hb dX1_add_28 rfl (lv_at hl 2 rfl) ?_
      refine lv_bipush (v := 6) hx hb dX1_add_29 (by decide) ?_
      refine lv_imul hx hb dX1_add_31 ?_
      refine lv_iload hx hb dX1_add_32 (lv_at hl 0 rfl) ?_
      refine lv_iadd hx hb dX1_add_34 ?_
      obtain ⟨v35, e35, hf⟩ := ob hf
      refine lv_nm e35 ?_
      refine lv_istore (lv' := [(6, .int v35), (5, .int v25), (0, rf E (b + 1)), (1, .int a0), (2, .int a1), (3, .int a2), (4, .int a3)]) hx hb dX1_add_35 hl (by decide) rfl (fun ls hl => ?_)
      refine lv_aload_n hx hb dX1_add_37 rfl (lv_at hl 2 rfl) ?_
      refine gf_X1_15 hx hb hB hK hown hW hB_b dX1_add_38 ?_
      refine lv_iload hx hb dX1_add_41 (lv_at hl 0 rfl) ?_
      refine lv_iload_n hx hb dX1_add_43 rfl (lv_at hl 4 rfl) ?_
      obtain ⟨x44, e44, hf⟩ := ob2 hf
      refine r_iastX hx hb hK hW hS (hB_b.lt (by decide)) (fun _ => cB_3 hB_b) e44 dX1_add_44 (fun H locs hW hS => ?_)
      refine lv_aload_n hx hb dX1_add_45 rfl (lv_at hl 2 rfl) ?_
      refine gf_X1_18 hx hb hB hK hown hW hB_b dX1_add_46 ?_
      refine lv_iload hx hb dX1_add_49 (lv_at hl 0 rfl) ?_
      refine lv_iload_n hx hb dX1_add_51 rfl (lv_at hl 5 rfl) ?_
      obtain ⟨x52, e52, hf⟩ := ob2 hf
      refine r_iastX hx hb hK hW hS (hB_b.lt (by decide)) (fun _ => cB_4 hB_b) e52 dX1_add_52 (fun H locs hW hS => ?_)
      refine lv_aload_n hx hb dX1_add_53 rfl (lv_at hl 2 rfl) ?_
      refine gf_X1_21 hx hb hB hK hown hW hB_b dX1_add_54 ?_
      refine lv_iload hx hb dX1_add_57 (lv_at hl 0 rfl) ?_
      refine lv_iload hx hb dX1_add_59 (lv_at hl 6 rfl) ?_
      obtain ⟨x61, e61, hf⟩ := ob2 hf
      refine r_iastX hx hb hK hW hS (hB_b.lt (by decide)) (fun _ => cB_5 hB_b) e61 dX1_add_61 (fun H locs hW hS => ?_)
      refine lv_aload_n hx hb dX1_add_62 rfl (lv_at hl 2 rfl) ?_
      refine gf_X1_24 hx hb hB hK hown hW hB_b dX1_add_63 ?_
      refine lv_iload hx hb dX1_add_66 (lv_at hl 0 rfl) ?_
      refine lv_iconst (v := 1) hx hb dX1_add_68 (by decide) ?_
      obtain ⟨x69, e69, hf⟩ := ob2 hf
      refine r_iastX hx hb hK hW hS (hB_b.lt (by decide)) (fun _ => cB_6 hB_b) e69 dX1_add_69 (fun H locs hW hS => ?_)
      refine lv_aload_n hx hb dX1_add_70 rfl (lv_at hl 2 rfl) ?_
      refine gf_X1_9 hx hb hB hK hown hW hB_b dX1_add_71 ?_
      refine lv_iload_n hx hb dX1_add_74 rfl (lv_at hl 3 rfl) ?_
      refine lv_iload hx hb dX1_add_75 (lv_at hl 1 rfl) ?_
      refine lv_iconst (v := 1) hx hb dX1_add_77 (by decide) ?_
      refine lv_iadd hx hb dX1_add_78 ?_
      obtain ⟨x79, e79, hf⟩ := ob2 hf
      refine r_iastX hx hb hK hW hS (hB_b.lt (by decide)) (fun _ => cB_2 hB_b) e79 dX1_add_79 (fun H locs hW hS => ?_)
      refine lv_iload hx hb dX1_add_80 (lv_at hl 1 rfl) ?_
      cases hf
      exact e_i hx hb hr hlk hW hS dX1_add_82
    · rw [if_neg c15] at hf
      refine lv_iconst (v := (-1)) hx hb dX1_add_18 (by decide) ?_
      cases hf
      exact e_i hx hb hr hlk hW hS dX1_add_19
def f_X1_has (b : Nat) (x : XS) (a0 : Int32) (a1 : Int32) : Option (Int32) :=
    (f_X4_isKind a0).bind fun v1 =>
    if (v1 = 0 : Prop) then
      some 0
    else
      (if (a1 < 0 : Prop) then
        some 0
      else
        ((aget 4 (x (b + 2)) a0).bind fun v17 =>
        if (v17 ≤ a1 : Prop) then
          some 0
        else
          some 1))
set_option maxRecDepth 100000 in
set_option maxHeartbeats 4000000 in
theorem p_X1_has (l : Launch) (E : TE) {b : Nat} (hB_b : IsB b) (x m : XS) (g o : Int64) {a0 : Int32} {a1 : Int32} {r : Int32} (hf : f_X1_has b x a0 a1 = some r) : MG l E yX1_has cX1_has 3 (some .boolean) 1 [rf E (b + 1), .int a0, .int a1] (Wd E x m g o) (Wd E x m g o) (some (.int r)) := by
  unfold f_X1_has at hf
  refine m_in (by decide) (Nat.le_of_ble_eq_true rfl) ?_
  intro p e s mi args below meth c H ls hx hb hr hlk hml hown hB hK hW hS hl
  have hl : lv_has ls 3 [(0, rf E (b + 1)), (1, .int a0), (2, .int a1)] := hl
  refine lv_iload_n hx hb dX1_has_0 rfl (lv_at hl 1 rfl) ?_
  obtain ⟨v1, e1, hf⟩ := ob2 hf
  refine c_SN (As := [.int a0]) (st1 := [.int v1]) (rest := []) (p_X4_isKind l E x m g o e1) (kc_X1_31 hB hK ⟨Nat.le_of_ble_eq_true rfl, Nat.le_of_ble_eq_true rfl⟩) hx hb hml hown hB hK hW hS ⟨Nat.le_refl 0, Nat.le_refl 0⟩ rfl hl.1 rfl (Nat.le_of_ble_eq_true rfl) rfl dX1_has_1 (fun H locs hW hS => ?_)
  refine lv_if_eq (tgt := 25) hx hb dX1_has_4 (by decide) (fun c4 => ?_) (fun c4 => ?_)
  · rw [if_pos c4] at hf
    refine lv_iconst (v := 0) hx hb dX1_has_25 (by decide) ?_
    cases hf
    exact e_z hx hb hr hlk (Or.inl rfl) hW hS dX1_has_26
  · rw [if_neg c4] at hf
    refine lv_iload_n hx hb dX1_has_7 rfl (lv_at hl 2 rfl) ?_
    refine lv_if_lt (tgt := 25) hx hb dX1_has_8 (by decide) (fun c8 => ?_) (fun c8 => ?_)
    · rw [if_pos c8] at hf
      refine lv_iconst (v := 0) hx hb dX1_has_25 (by decide) ?_
      cases hf
      exact e_z hx hb hr hlk (Or.inl rfl) hW hS dX1_has_26
    · rw [if_neg c8] at hf
      refine lv_iload_n hx hb dX1_has_11 rfl (lv_at hl 2 rfl) ?_
      refine lv_aload_n hx hb dX1_has_12 rfl (lv_at hl 0 rfl) ?_
      refine gf_X1_9 hx hb hB hK hown hW hB_b dX1_has_13 ?_
      refine lv_iload_n hx hb dX1_has_16 rfl (lv_at hl 1 rfl) ?_
      obtain ⟨v17, e17, hf⟩ := ob2 hf
      refine r_iald hx hb hK hW (hB_b.l8 (by decide)) (cB_2 hB_b) e17 dX1_has_17 ?_
      refine lv_icmp_ge (tgt := 25) hx hb dX1_has_18 (by decide) (fun c18 => ?_) (fun c18 => ?_)
      · rw [if_pos c18] at hf
        refine lv_iconst (v := 0) hx hb dX1_has_25 (by decide) ?_
        cases hf
        exact e_z hx hb hr hlk (Or.inl rfl) hW hS dX1_has_26
      · rw [if_neg c18] at hf
        refine lv_iconst (v := 1) hx hb dX1_has_21 (by decide) ?_
        refine lv_goto (tgt := 26) hx hb dX1_has_22 (by decide) ?_
        cases hf
        exact e_z hx hb hr hlk (Or.inr rfl) hW hS dX1_has_26
def f_X1_isOffered (b : Nat) (x : XS) (a0 : Int32) (a1 : Int32) : Option (Int32) :=
    (f_X1_has b x a0 a1).bind fun v3 =>
    if (v3 = 0 : Prop) then
      some 0
    else
      ((aget 24 (x (b + 6)) ((a0 * 6) + a1)).bind fun v19 =>
      if (v19 = 1 : Prop) then
        some 1
      else
        some 0)
set_option maxRecDepth 100000 in
set_option maxHeartbeats 4000000 in
theorem p_X1_isOffered (l : Launch) (E : TE) {b : Nat} (hB_b : IsB b) (x m : XS) (g o : Int64) {a0 : Int32} {a1 : Int32} {r : Int32} (hf : f_X1_isOffered b x a0 a1 = some r) : MG l E yX1_isOffered cX1_isOffered 3 (some .boolean) 2 [rf E (b + 1), .int a0, .int a1] (Wd E x m g o) (Wd E x m g o) (some (.int r)) := by
  unfold f_X1_isOffered at hf
  refine m_in (by decide) (Nat.le_of_ble_eq_true rfl) ?_
  intro p e s mi args below meth c H ls hx hb hr hlk hml hown hB hK hW hS hl
  have hl : lv_has ls 3 [(0, rf E (b + 1)), (1, .int a0), (2, .int a1)] := hl
  refine lv_aload_n hx hb dX1_isOffered_0 rfl (lv_at hl 0 rfl) ?_
  refine lv_iload_n hx hb dX1_isOffered_1 rfl (lv_at hl 1 rfl) ?_
  refine lv_iload_n hx hb dX1_isOffered_2 rfl (lv_at hl 2 rfl) ?_
  obtain ⟨v3, e3, hf⟩ := ob2 hf
  refine c_V (As := [.int a0, .int a1]) (st1 := [.int v3]) (rest := []) (p_X1_has l E hB_b x m g o e3) (kc_X1_35 hB ⟨Nat.le_of_ble_eq_true rfl, Nat.le_of_ble_eq_true rfl⟩) (Wd.rec hK hW (hB_b.l8 (j := 1) (by decide)) (cB_1 hB_b) (ci := 1) rfl) hx hb hml hown hB hK hW hS ⟨Nat.le_refl 0, Nat.le_refl 0⟩ rfl hl.1 rfl (Nat.le_of_ble_eq_true rfl) rfl dX1_isOffered_3 (fun H locs hW hS => ?_)
  refine lv_if_eq (tgt := 28) hx hb dX1_isOffered_6 (by decide) (fun c6 => ?_) (fun c6 => ?_)
  · rw [if_pos c6] at hf
    refine lv_iconst (v := 0) hx hb dX1_isOffered_28 (by decide) ?_
    cases hf
    exact e_z hx hb hr hlk (Or.inl rfl) hW hS dX1_isOffered_29
  · rw [if_neg c6] at hf
    refine lv_aload_n hx hb dX1_isOffered_9 rfl (lv_at hl 0 rfl) ?_
    refine gf_X1_24 hx hb hB hK hown hW hB_b dX1_isOffered_10 ?_
    refine lv_iload_n hx hb dX1_isOffered_13 rfl (lv_at hl 1 rfl) ?_
    refine lv_bipush (v := 6) hx hb dX1_isOffered_14 (by decide) ?_
    refine lv_imul hx hb dX1_isOffered_16 ?_
    refine lv_iload_n hx hb dX1_isOffered_17 rfl (lv_at hl 2 rfl) ?_
    refine lv_iadd hx hb dX1_isOffered_18 ?_
    obtain ⟨v19, e19, hf⟩ := ob2 hf
    refine r_iald hx hb hK hW (hB_b.l8 (by decide)) (cB_6 hB_b) e19 dX1_isOffered_19 ?_
    refine lv_iconst (v := 1) hx hb dX1_isOffered_20 (by decide) ?_
    refine lv_icmp_ne (tgt := 28) hx hb dX1_isOffered_21 (by decide) (fun c21 => ?_) (fun c21 => ?_)
    · rw [if_neg c21] at hf
      refine lv_iconst (v := 0) hx hb dX1_isOffered_28 (by decide) ?_
      cases hf
      exact e_z hx hb hr hlk (Or.inl rfl) hW hS dX1_isOffered_29
    · rw [if_pos c21] at hf
      refine lv_iconst (v := 1) hx hb dX1_isOffered_24 (by decide) ?_
      refine lv_goto (tgt := 29) hx hb dX1_isOffered_25 (by decide) ?_
      cases hf
      exact e_z hx hb hr hlk (Or.inr rfl) hW hS dX1_isOffered_29
def f_X1_remove_49 (b : Nat) (k26 : XS → Int32 → Int32 → Int32 → Option (Int32 × XS)) (x49 : XS) (l1_49 : Int32) (l3_49 : Int32) (l4_49 : Int32) : Option (Int32 × XS) :=
    (some (l4_49 + 1)).bind fun v49 =>
    k26 x49 l1_49 l3_49 v49
def f_X1_remove_26 (b : Nat) : Nat → XS → Int32 → Int32 → Int32 → Option (Int32 × XS)
  | 0, _, _, _, _ => none
  | n26 + 1, x26, l1_26, l3_26, l4_26 =>
    (f_X1_sizeOf b x26 l1_26).bind fun v30 =>
    if (v30 ≤ l4_26 : Prop) then
      some (l3_26, x26)
    else
      ((f_X1_isOffered b x26 l1_26 l4_26).bind fun v40 =>
      if (v40 = 0 : Prop) then
        f_X1_remove_49 b (f_X1_remove_26 b n26) x26 l1_26 l3_26 l4_26
      else
        ((some (l3_26 + 1)).bind fun v46 =>
        f_X1_remove_49 b (f_X1_remove_26 b n26) x26 l1_26 v46 l4_26))
def f_X1_remove_21 (b : Nat) (x21 : XS) (l1_21 : Int32) : Option (Int32 × XS) :=
    f_X1_remove_26 b 4096 x21 l1_21 0 0
def f_X1_remove (b : Nat) (x : XS) (a0 : Int32) (a1 : Int32) : Option (Int32 × XS) :=
    (f_X1_has b x a0 a1).bind fun v3 =>
    if (v3 = 0 : Prop) then
      f_X1_remove_21 b x a0
    else
      ((aset x (b + 6) 24 ((a0 * 6) + a1) 0).bind fun x20 =>
      f_X1_remove_21 b x20 a0)
set_option maxRecDepth 100000 in
set_option maxHeartbeats 4000000 in
theorem p_X1_remove (l : Launch) (E : TE) {b : Nat} (hB_b : IsB b) (x m : XS) (g o : Int64) {a0 : Int32} {a1 : Int32} {r : Int32} {xr : XS} (hf : f_X1_remove b x a0 a1 = some (r, xr)) : MG l E yX1_remove cX1_remove 5 (some .int) 3 [rf E (b + 1), .int a0, .int a1] (Wd E x m g o) (Wd E xr m g o) (some (.int r)) := by
  unfold f_X1_remove at hf
  refine m_in (by decide) (Nat.le_of_ble_eq_true rfl) ?_
  intro p e s mi args below meth c H ls hx hb hr hlk hml hown hB hK hW hS hl
  have hl : lv_has ls 5 [(0, rf E (b + 1)), (1, .int a0), (2, .int a1)] := hl
  have J26 : ∀ (n26 : Nat), ∀ (x26 : XS) (l1_26 : Int32) (l3_26 : Int32) (l4_26 : Int32) (H : Heap) (locs : List Loc) (ls : Array Slot), f_X1_remove_26 b n26 x26 l1_26 l3_26 l4_26 = some (r, xr) → Wd E x26 m g o H → va_S (Ah E) s.heap H locs → lv_has ls 5 [(0, rf E (b + 1)), (1, .int l1_26), (3, .int l3_26), (4, .int l4_26)] → W p l e (rmH 3) s mi args below meth c H locs 0 0 (EQ E below args s (Wd E xr m g o) (some (.int r))) (F0 mi 26 ls []) := by
    intro n26
    induction n26 with
    | zero => intro x26 l1_26 l3_26 l4_26 H locs ls hf; exact absurd hf (fun z => nomatch (show (none : Option (Int32 × XS)) = some _ from z))
    | succ n26 ih26 =>
      intro x26 l1_26 l3_26 l4_26 H locs ls hf hW hS hl
      rw [f_X1_remove_26.eq_2] at hf
      have J49 : ∀ (x49 : XS) (l1_49 : Int32) (l3_49 : Int32) (l4_49 : Int32) (H : Heap) (locs : List Loc) (ls : Array Slot), f_X1_remove_49 b (f_X1_remove_26 b n26) x49 l1_49 l3_49 l4_49 = some (r, xr) → Wd E x49 m g o H → va_S (Ah E) s.heap H locs → lv_has ls 5 [(0, rf E (b + 1)), (1, .int l1_49), (3, .int l3_49), (4, .int l4_49)] → W p l e (rmH 3) s mi args below meth c H locs 0 0 (EQ E below args s (Wd E xr m g o) (some (.int r))) (F0 mi 49 ls []) := by
        intro x49 l1_49 l3_49 l4_49 H locs ls hf hW hS hl
        unfold f_X1_remove_49 at hf
        obtain ⟨v49, e49, hf⟩ := ob hf
        refine lv_iinc (v := v49) (lv' := [(4, .int v49), (0, rf E (b + 1)), (1, .int l1_49), (3, .int l3_49)]) hx hb dX1_remove_49 hl (k := 3) rfl (by rw [e49]; rfl) (by decide) rfl (fun ls hl => ?_)
        refine lv_goto (tgt := 26) hx hb dX1_remove_52 (by decide) ?_
        exact ih26 x49 l1_49 l3_49 v49 _ _ _ hf hW hS (lv_sub hl [1, 2, 3, 0] rfl)
      refine lv_iload hx hb dX1_remove_26 (lv_at hl 3 rfl) ?_
      refine lv_aload_n hx hb dX1_remove_28 rfl (lv_at hl 0 rfl) ?_
      refine lv_iload_n hx hb dX1_remove_29 rfl (lv_at hl 1 rfl) ?_
      obtain ⟨v30, e30, hf⟩ := ob2 hf
      refine c_V (As := [.int l1_26]) (st1 := [.int v30, .int l4_26]) (rest := [.int l4_26]) (p_X1_sizeOf l E hB_b x26 m g o e30) (kc_X1_50 hB ⟨Nat.le_of_ble_eq_true rfl, Nat.le_of_ble_eq_true rfl⟩) (Wd.rec hK hW (hB_b.l8 (j := 1) (by decide)) (cB_1 hB_b) (ci := 1) rfl) hx hb hml hown hB hK hW hS ⟨Nat.le_refl 0, Nat.le_refl 0⟩ rfl hl.1 rfl (Nat.le_of_ble_eq_true rfl) rfl dX1_remove_30 (fun H locs hW hS => ?_)
      refine lv_icmp_ge (tgt := 55) hx hb dX1_remove_33 (by decide) (fun c33 => ?_) (fun c33 => ?_)
      · rw [if_pos c33] at hf
        refine lv_iload_n hx hb dX1_remove_55 rfl (lv_at hl 2 rfl) ?_
        cases hf
        exact e_i hx hb hr hlk hW hS dX1_remove_56
      · rw [if_neg c33] at hf
        refine lv_aload_n hx hb dX1_remove_36 rfl (lv_at hl 0 rfl) ?_
        refine lv_iload_n hx hb dX1_remove_37 rfl (lv_at hl 1 rfl) ?_
        refine lv_iload hx hb dX1_remove_38 (lv_at hl 3 rfl) ?_
        obtain ⟨v40, e40, hf⟩ := ob2 hf
        refine c_V (As := [.int l1_26, .int l4_26]) (st1 := [.int v40]) (rest := []) (p_X1_isOffered l E hB_b x26 m g o e40) (kc_X1_54 hB ⟨Nat.le_of_ble_eq_true rfl, Nat.le_of_ble_eq_true rfl⟩) (Wd.rec hK hW (hB_b.l8 (j := 1) (by decide)) (cB_1 hB_b) (ci := 1) rfl) hx hb hml hown hB hK hW hS ⟨Nat.le_refl 0, Nat.le_refl 0⟩ rfl hl.1 rfl (Nat.le_of_ble_eq_true rfl) rfl dX1_remove_40 (fun H locs hW hS => ?_)
        refine lv_if_eq (tgt := 49) hx hb dX1_remove_43 (by decide) (fun c43 => ?_) (fun c43 => ?_)
        · rw [if_pos c43] at hf
          exact J49 x26 l1_26 l3_26 l4_26 _ _ _ hf hW hS (lv_sub hl [0, 1, 2, 3] rfl)
        · rw [if_neg c43] at hf
          obtain ⟨v46, e46, hf⟩ := ob hf
          refine lv_iinc (v := v46) (lv' := [(3, .int v46), (0, rf E (b + 1)), (1, .int l1_26), (4, .int l4_26)]) hx hb dX1_remove_46 hl (k := 2) rfl (by rw [e46]; rfl) (by decide) rfl (fun ls hl => ?_)
          exact J49 x26 l1_26 v46 l4_26 _ _ _ hf hW hS (lv_sub hl [1, 2, 0, 3] rfl)
  have J21 : ∀ (x21 : XS) (l1_21 : Int32) (H : Heap) (locs : List Loc) (ls : Array Slot), f_X1_remove_21 b x21 l1_21 = some (r, xr) → Wd E x21 m g o H → va_S (Ah E) s.heap H locs → lv_has ls 5 [(0, rf E (b + 1)), (1, .int l1_21)] → W p l e (rmH 3) s mi args below meth c H locs 0 0 (EQ E below args s (Wd E xr m g o) (some (.int r))) (F0 mi 21 ls []) := by
    intro x21 l1_21 H locs ls hf hW hS hl
    unfold f_X1_remove_21 at hf
    refine lv_iconst (v := 0) hx hb dX1_remove_21 (by decide) ?_
    refine lv_istore_n (lv' := [(3, .int 0), (0, rf E (b + 1)), (1, .int l1_21)]) hx hb dX1_remove_22 rfl hl (by decide) rfl (fun ls hl => ?_)
    refine lv_iconst (v := 0) hx hb dX1_remove_23 (by decide) ?_
    refine lv_istore (lv' := [(4, .int 0), (3, .int 0), (0, rf E (b + 1)), (1, .int l1_21)]) hx hb dX1_remove_24 hl (by decide) rfl (fun ls hl => ?_)
    exact J26 4096 x21 l1_21 0 0 _ _ _ hf hW hS (lv_sub hl [2, 3, 1, 0] rfl)
  refine lv_aload_n hx hb dX1_remove_0 rfl (lv_at hl 0 rfl) ?_
  refine lv_iload_n hx hb dX1_remove_1 rfl (lv_at hl 1 rfl) ?_
  refine lv_iload_n hx hb dX1_remove_2 rfl (lv_at hl 2 rfl) ?_
  obtain ⟨v3, e3, hf⟩ := ob2 hf
  refine c_V (As := [.int a0, .int a1]) (st1 := [.int v3]) (rest := []) (p_X1_has l E hB_b x m g o e3) (kc_X1_35 hB ⟨Nat.le_of_ble_eq_true rfl, Nat.le_of_ble_eq_true rfl⟩) (Wd.rec hK hW (hB_b.l8 (j := 1) (by decide)) (cB_1 hB_b) (ci := 1) rfl) hx hb hml hown hB hK hW hS ⟨Nat.le_refl 0, Nat.le_refl 0⟩ rfl hl.1 rfl (Nat.le_of_ble_eq_true rfl) rfl dX1_remove_3 (fun H locs hW hS => ?_)
  refine lv_if_eq (tgt := 21) hx hb dX1_remove_6 (by decide) (fun c6 => ?_) (fun c6 => ?_)
  · rw [if_pos c6] at hf
    exact J21 x a0 _ _ _ hf hW hS (lv_sub hl [0, 1] rfl)
  · rw [if_neg c6] at hf
    refine lv_aload_n hx hb dX1_remove_9 rfl (lv_at hl 0 rfl) ?_
    refine gf_X1_24 hx hb hB hK hown hW hB_b dX1_remove_10 ?_
    refine lv_iload_n hx hb dX1_remove_13 rfl (lv_at hl 1 rfl) ?_
    refine lv_bipush (v := 6) hx hb dX1_remove_14 (by decide) ?_
    refine lv_imul hx hb dX1_remove_16 ?_
    refine lv_iload_n hx hb dX1_remove_17 rfl (lv_at hl 2 rfl) ?_
    refine lv_iadd hx hb dX1_remove_18 ?_
    refine lv_iconst (v := 0) hx hb dX1_remove_19 (by decide) ?_
    obtain ⟨x20, e20, hf⟩ := ob2 hf
    refine r_iastX hx hb hK hW hS (hB_b.lt (by decide)) (fun _ => cB_6 hB_b) e20 dX1_remove_20 (fun H locs hW hS => ?_)
    exact J21 x20 a0 _ _ _ hf hW hS (lv_sub hl [0, 1] rfl)
def f_X0_add (b : Nat) (x : XS) (a0 : Int32) (a1 : Int32) (a2 : Int32) : Option (Int32 × XS) :=
    if ((x (b + 7) 0) < 24 : Prop) then
      ((some ((x (b + 7) 0))).bind fun v15 =>
      (aset x (b + 8) 24 v15 a0).bind fun x24 =>
      (aset x24 (b + 9) 24 v15 a1).bind fun x32 =>
      (aset x32 (b + 10) 24 v15 a2).bind fun x40 =>
      (aset x40 (b + 11) 24 v15 0).bind fun x48 =>
      (aset x48 (b + 12) 24 v15 (-1)).bind fun x56 =>
      (aset x56 (b + 13) 24 v15 0).bind fun x64 =>
      (aset x64 (b + 14) 24 v15 (-1)).bind fun x72 =>
      (aset x72 (b + 15) 24 v15 (-1)).bind fun x80 =>
      (aset x80 (b + 16) 24 v15 (-1)).bind fun x88 =>
      (some (ux x88 (b + 7) 0 (v15 + 1))).bind fun x94 =>
      some (v15, x94))
    else
      some ((-1), x)
set_option maxRecDepth 100000 in
set_option maxHeartbeats 4000000 in
theorem p_X0_add (l : Launch) (E : TE) {b : Nat} (hB_b : IsB b) (x m : XS) (g o : Int64) {a0 : Int32} {a1 : Int32} {a2 : Int32} {r : Int32} {xr : XS} (hf : f_X0_add b x a0 a1 a2 = some (r, xr)) : MG l E yX0_add cX0_add 5 (some .int) 0 [rf E (b + 7), .int a0, .int a1, .int a2] (Wd E x m g o) (Wd E xr m g o) (some (.int r)) := by
  unfold f_X0_add at hf
  refine m_in (by decide) (Nat.le_of_ble_eq_true rfl) ?_
  intro p e s mi args below meth c H ls hx hb hr hlk hml hown hB hK hW hS hl
  have hl : lv_has ls 5 [(0, rf E (b + 7)), (1, .int a0), (2, .int a1), (3, .int a2)] := hl
  refine lv_aload_n hx hb dX0_add_0 rfl (lv_at hl 0 rfl) ?_
  refine gf_X0_39 hx hb hB hK hown hW hB_b dX0_add_1 ?_
  refine lv_bipush (v := 24) hx hb dX0_add_4 (by decide) ?_
  refine lv_icmp_lt (tgt := 11) hx hb dX0_add_6 (by decide) (fun c6 => ?_) (fun c6 => ?_)
  · rw [if_pos c6] at hf
    refine lv_aload_n hx hb dX0_add_11 rfl (lv_at hl 0 rfl) ?_
    refine gf_X0_39 hx hb hB hK hown hW hB_b dX0_add_12 ?_
    obtain ⟨v15, e15, hf⟩ := ob hf
    refine lv_nm e15 ?_
    refine lv_istore (lv' := [(4, .int v15), (0, rf E (b + 7)), (1, .int a0), (2, .int a1), (3, .int a2)]) hx hb dX0_add_15 hl (by decide) rfl (fun ls hl => ?_)
    refine lv_aload_n hx hb dX0_add_17 rfl (lv_at hl 1 rfl) ?_
    refine gf_X0_9 hx hb hB hK hown hW hB_b dX0_add_18 ?_
    refine lv_iload hx hb dX0_add_21 (lv_at hl 0 rfl) ?_
    refine lv_iload_n hx hb dX0_add_23 rfl (lv_at hl 2 rfl) ?_
    obtain ⟨x24, e24, hf⟩ := ob2 hf
    refine r_iastX hx hb hK hW hS (hB_b.lt (by decide)) (fun _ => cB_8 hB_b) e24 dX0_add_24 (fun H locs hW hS => ?_)
    refine lv_aload_n hx hb dX0_add_25 rfl (lv_at hl 1 rfl) ?_
    refine gf_X0_15 hx hb hB hK hown hW hB_b dX0_add_26 ?_
    refine lv_iload hx hb dX0_add_29 (lv_at hl 0 rfl) ?_
    refine lv_iload_n hx hb dX0_add_31 rfl (lv_at hl 3 rfl) ?_
    obtain ⟨x32, e32, hf⟩ := ob2 hf
    refine r_iastX hx hb hK hW hS (hB_b.lt (by decide)) (fun _ => cB_9 hB_b) e32 dX0_add_32 (fun H locs hW hS => ?_)
    refine lv_aload_n hx hb dX0_add_33 rfl (lv_at hl 1 rfl) ?_
    refine gf_X0_18 hx hb hB hK hown hW hB_b dX0_add_34 ?_
    refine lv_iload hx hb dX0_add_37 (lv_at hl 0 rfl) ?_
    refine lv_iload_n hx hb dX0_add_39 rfl (lv_at hl 4 rfl) ?_
    obtain ⟨x40, e40, hf⟩ := ob2 hf
    refine r_iastX hx hb hK hW hS (hB_b.lt (by decide)) (fun _ => cB_10 hB_b) e40 dX0_add_40 (fun H locs hW hS => ?_)
    refine lv_aload_n hx hb dX0_add_41 rfl (lv_at hl 1 rfl) ?_
    refine gf_X0_21 hx hb hB hK hown hW hB_b dX0_add_42 ?_
    refine lv_iload hx hb dX0_add_45 (lv_at hl 0 rfl) ?_
    refine lv_iconst (v := 0) hx hb dX0_add_47 (by decide) ?_
    obtain ⟨x48, e48, hf⟩ := ob2 hf
    refine r_iastX hx hb hK hW hS (hB_b.lt (by decide)) (fun _ => cB_11 hB_b) e48 dX0_add_48 (fun H locs hW hS => ?_)
    refine lv_aload_n hx hb dX0_add_49 rfl (lv_at hl 1 rfl) ?_
    refine gf_X0_24 hx hb hB hK hown hW hB_b dX0_add_50 ?_
    refine lv_iload hx hb dX0_add_53 (lv_at hl 0 rfl) ?_
    refine lv_iconst (v := (-1)) hx hb dX0_add_55 (by decide) ?_
    obtain ⟨x56, e56, hf⟩ := ob2 hf
    refine r_iastX hx hb hK hW hS (hB_b.lt (by decide)) (fun _ => cB_12 hB_b) e56 dX0_add_56 (fun H locs hW hS => ?_)
    refine lv_aload_n hx hb dX0_add_57 rfl (lv_at hl 1 rfl) ?_
    refine gf_X0_27 hx hb hB hK hown hW hB_b dX0_add_58 ?_
    refine lv_iload hx hb dX0_add_61 (lv_at hl 0 rfl) ?_
    refine lv_iconst (v := 0) hx hb dX0_add_63 (by decide) ?_
    obtain ⟨x64, e64, hf⟩ := ob2 hf
    refine r_iastX hx hb hK hW hS (hB_b.lt (by decide)) (fun _ => cB_13 hB_b) e64 dX0_add_64 (fun H locs hW hS => ?_)
    refine lv_aload_n hx hb dX0_add_65 rfl (lv_at hl 1 rfl) ?_
    refine gf_X0_30 hx hb hB hK hown hW hB_b dX0_add_66 ?_
    refine lv_iload hx hb dX0_add_69 (lv_at hl 0 rfl) ?_
    refine lv_iconst (v := (-1)) hx hb dX0_add_71 (by decide) ?_
    obtain ⟨x72, e72, hf⟩ := ob2 hf
    refine r_iastX hx hb hK hW hS (hB_b.lt (by decide)) (fun _ => cB_14 hB_b) e72 dX0_add_72 (fun H locs hW hS => ?_)
    refine lv_aload_n hx hb dX0_add_73 rfl (lv_at hl 1 rfl) ?_
    refine gf_X0_33 hx hb hB hK hown hW hB_b dX0_add_74 ?_
    refine lv_iload hx hb dX0_add_77 (lv_at hl 0 rfl) ?_
    refine lv_iconst (v := (-1)) hx hb dX0_add_79 (by decide) ?_
    obtain ⟨x80, e80, hf⟩ := ob2 hf
    refine r_iastX hx hb hK hW hS (hB_b.lt (by decide)) (fun _ => cB_15 hB_b) e80 dX0_add_80 (fun H locs hW hS => ?_)
    refine lv_aload_n hx hb dX0_add_81 rfl (lv_at hl 1 rfl) ?_
    refine gf_X0_36 hx hb hB hK hown hW hB_b dX0_add_82 ?_
    refine lv_iload hx hb dX0_add_85 (lv_at hl 0 rfl) ?_
    refine lv_iconst (v := (-1)) hx hb dX0_add_87 (by decide) ?_
    obtain ⟨x88, e88, hf⟩ := ob2 hf
    refine r_iastX hx hb hK hW hS (hB_b.lt (by decide)) (fun _ => cB_16 hB_b) e88 dX0_add_88 (fun H locs hW hS => ?_)
    refine lv_aload_n hx hb dX0_add_89 rfl (lv_at hl 1 rfl) ?_
    refine lv_iload hx hb dX0_add_90 (lv_at hl 0 rfl) ?_
    refine lv_iconst (v := 1) hx hb dX0_add_92 (by decide) ?_
    refine lv_iadd hx hb dX0_add_93 ?_
    obtain ⟨x94, e94, hf⟩ := ob hf
    refine pf_X0_39 hx hb hB hK hown hW hS hB_b e94 dX0_add_94 (fun H locs hW hS => ?_)
    refine lv_iload hx hb dX0_add_97 (lv_at hl 0 rfl) ?_
    cases hf
    exact e_i hx hb hr hlk hW hS dX0_add_99
  · rw [if_neg c6] at hf
    refine lv_iconst (v := (-1)) hx hb dX0_add_9 (by decide) ?_
    cases hf
    exact e_i hx hb hr hlk hW hS dX0_add_10
def f_X0_has (b : Nat) (x : XS) (a0 : Int32) : Option (Int32) :=
    if (a0 < 0 : Prop) then
      some 0
    else
      (if ((x (b + 7) 0) ≤ a0 : Prop) then
        some 0
      else
        some 1)
set_option maxRecDepth 100000 in
set_option maxHeartbeats 4000000 in
theorem p_X0_has (l : Launch) (E : TE) {b : Nat} (hB_b : IsB b) (x m : XS) (g o : Int64) {a0 : Int32} {r : Int32} (hf : f_X0_has b x a0 = some r) : MG l E yX0_has cX0_has 2 (some .boolean) 0 [rf E (b + 7), .int a0] (Wd E x m g o) (Wd E x m g o) (some (.int r)) := by
  unfold f_X0_has at hf
  refine m_in (by decide) (Nat.le_of_ble_eq_true rfl) ?_
  intro p e s mi args below meth c H ls hx hb hr hlk hml hown hB hK hW hS hl
  have hl : lv_has ls 2 [(0, rf E (b + 7)), (1, .int a0)] := hl
  refine lv_iload_n hx hb dX0_has_0 rfl (lv_at hl 1 rfl) ?_
  refine lv_if_lt (tgt := 16) hx hb dX0_has_1 (by decide) (fun c1 => ?_) (fun c1 => ?_)
  · rw [if_pos c1] at hf
    refine lv_iconst (v := 0) hx hb dX0_has_16 (by decide) ?_
    cases hf
    exact e_z hx hb hr hlk (Or.inl rfl) hW hS dX0_has_17
  · rw [if_neg c1] at hf
    refine lv_iload_n hx hb dX0_has_4 rfl (lv_at hl 1 rfl) ?_
    refine lv_aload_n hx hb dX0_has_5 rfl (lv_at hl 0 rfl) ?_
    refine gf_X0_39 hx hb hB hK hown hW hB_b dX0_has_6 ?_
    refine lv_icmp_ge (tgt := 16) hx hb dX0_has_9 (by decide) (fun c9 => ?_) (fun c9 => ?_)
    · rw [if_pos c9] at hf
      refine lv_iconst (v := 0) hx hb dX0_has_16 (by decide) ?_
      cases hf
      exact e_z hx hb hr hlk (Or.inl rfl) hW hS dX0_has_17
    · rw [if_neg c9] at hf
      refine lv_iconst (v := 1) hx hb dX0_has_12 (by decide) ?_
      refine lv_goto (tgt := 17) hx hb dX0_has_13 (by decide) ?_
      cases hf
      exact e_z hx hb hr hlk (Or.inr rfl) hW hS dX0_has_17
def f_X0_kindOf (b : Nat) (x : XS) (a0 : Int32) : Option (Int32) :=
    (f_X0_has b x a0).bind fun v2 =>
    if (v2 = 0 : Prop) then
      some (-1)
    else
      ((aget 24 (x (b + 8)) a0).bind fun v13 =>
      some v13)
set_option maxRecDepth 100000 in
set_option maxHeartbeats 4000000 in
theorem p_X0_kindOf (l : Launch) (E : TE) {b : Nat} (hB_b : IsB b) (x m : XS) (g o : Int64) {a0 : Int32} {r : Int32} (hf : f_X0_kindOf b x a0 = some r) : MG l E yX0_kindOf cX0_kindOf 2 (some .int) 1 [rf E (b + 7), .int a0] (Wd E x m g o) (Wd E x m g o) (some (.int r)) := by
  unfold f_X0_kindOf at hf
  refine m_in (by decide) (Nat.le_of_ble_eq_true rfl) ?_
  intro p e s mi args below meth c H ls hx hb hr hlk hml hown hB hK hW hS hl
  have hl : lv_has ls 2 [(0, rf E (b + 7)), (1, .int a0)] := hl
  refine lv_aload_n hx hb dX0_kindOf_0 rfl (lv_at hl 0 rfl) ?_
  refine lv_iload_n hx hb dX0_kindOf_1 rfl (lv_at hl 1 rfl) ?_
  obtain ⟨v2, e2, hf⟩ := ob2 hf
  refine c_V (As := [.int a0]) (st1 := [.int v2]) (rest := []) (p_X0_has l E hB_b x m g o e2) (kc_X0_47 hB ⟨Nat.le_of_ble_eq_true rfl, Nat.le_of_ble_eq_true rfl⟩) (Wd.rec hK hW (hB_b.l8 (j := 7) (by decide)) (cB_7 hB_b) (ci := 0) rfl) hx hb hml hown hB hK hW hS ⟨Nat.le_refl 0, Nat.le_refl 0⟩ rfl hl.1 rfl (Nat.le_of_ble_eq_true rfl) rfl dX0_kindOf_2 (fun H locs hW hS => ?_)
  refine lv_if_eq (tgt := 17) hx hb dX0_kindOf_5 (by decide) (fun c5 => ?_) (fun c5 => ?_)
  · rw [if_pos c5] at hf
    refine lv_iconst (v := (-1)) hx hb dX0_kindOf_17 (by decide) ?_
    cases hf
    exact e_i hx hb hr hlk hW hS dX0_kindOf_18
  · rw [if_neg c5] at hf
    refine lv_aload_n hx hb dX0_kindOf_8 rfl (lv_at hl 0 rfl) ?_
    refine gf_X0_9 hx hb hB hK hown hW hB_b dX0_kindOf_9 ?_
    refine lv_iload_n hx hb dX0_kindOf_12 rfl (lv_at hl 1 rfl) ?_
    obtain ⟨v13, e13, hf⟩ := ob2 hf
    refine r_iald hx hb hK hW (hB_b.l8 (by decide)) (cB_8 hB_b) e13 dX0_kindOf_13 ?_
    refine lv_goto (tgt := 18) hx hb dX0_kindOf_14 (by decide) ?_
    cases hf
    exact e_i hx hb hr hlk hW hS dX0_kindOf_18
def f_X0_stageOf (b : Nat) (x : XS) (a0 : Int32) : Option (Int32) :=
    (f_X0_has b x a0).bind fun v2 =>
    if (v2 = 0 : Prop) then
      some (-1)
    else
      ((aget 24 (x (b + 11)) a0).bind fun v13 =>
      some v13)
set_option maxRecDepth 100000 in
set_option maxHeartbeats 4000000 in
theorem p_X0_stageOf (l : Launch) (E : TE) {b : Nat} (hB_b : IsB b) (x m : XS) (g o : Int64) {a0 : Int32} {r : Int32} (hf : f_X0_stageOf b x a0 = some r) : MG l E yX0_stageOf cX0_stageOf 2 (some .int) 1 [rf E (b + 7), .int a0] (Wd E x m g o) (Wd E x m g o) (some (.int r)) := by
  unfold f_X0_stageOf at hf
  refine m_in (by decide) (Nat.le_of_ble_eq_true rfl) ?_
  intro p e s mi args below meth c H ls hx hb hr hlk hml hown hB hK hW hS hl
  have hl : lv_has ls 2 [(0, rf E (b + 7)), (1, .int a0)] := hl
  refine lv_aload_n hx hb dX0_stageOf_0 rfl (lv_at hl 0 rfl) ?_
  refine lv_iload_n hx hb dX0_stageOf_1 rfl (lv_at hl 1 rfl) ?_
  obtain ⟨v2, e2, hf⟩ := ob2 hf
  refine c_V (As := [.int a0]) (st1 := [.int v2]) (rest := []) (p_X0_has l E hB_b x m g o e2) (kc_X0_47 hB ⟨Nat.le_of_ble_eq_true rfl, Nat.le_of_ble_eq_true rfl⟩) (Wd.rec hK hW (hB_b.l8 (j := 7) (by decide)) (cB_7 hB_b) (ci := 0) rfl) hx hb hml hown hB hK hW hS ⟨Nat.le_refl 0, Nat.le_refl 0⟩ rfl hl.1 rfl (Nat.le_of_ble_eq_true rfl) rfl dX0_stageOf_2 (fun H locs hW hS => ?_)
  refine lv_if_eq (tgt := 17) hx hb dX0_stageOf_5 (by decide) (fun c5 => ?_) (fun c5 => ?_)
  · rw [if_pos c5] at hf
    refine lv_iconst (v := (-1)) hx hb dX0_stageOf_17 (by decide) ?_
    cases hf
    exact e_i hx hb hr hlk hW hS dX0_stageOf_18
  · rw [if_neg c5] at hf
    refine lv_aload_n hx hb dX0_stageOf_8 rfl (lv_at hl 0 rfl) ?_
    refine gf_X0_21 hx hb hB hK hown hW hB_b dX0_stageOf_9 ?_
    refine lv_iload_n hx hb dX0_stageOf_12 rfl (lv_at hl 1 rfl) ?_
    obtain ⟨v13, e13, hf⟩ := ob2 hf
    refine r_iald hx hb hK hW (hB_b.l8 (by decide)) (cB_11 hB_b) e13 dX0_stageOf_13 ?_
    refine lv_goto (tgt := 18) hx hb dX0_stageOf_14 (by decide) ?_
    cases hf
    exact e_i hx hb hr hlk hW hS dX0_stageOf_18
def f_X0_severityOf (b : Nat) (x : XS) (a0 : Int32) : Option (Int32) :=
    (f_X0_has b x a0).bind fun v2 =>
    if (v2 = 0 : Prop) then
      some (-1)
    else
      ((aget 24 (x (b + 9)) a0).bind fun v13 =>
      some v13)
set_option maxRecDepth 100000 in
set_option maxHeartbeats 4000000 in
theorem p_X0_severityOf (l : Launch) (E : TE) {b : Nat} (hB_b : IsB b) (x m : XS) (g o : Int64) {a0 : Int32} {r : Int32} (hf : f_X0_severityOf b x a0 = some r) : MG l E yX0_severityOf cX0_severityOf 2 (some .int) 1 [rf E (b + 7), .int a0] (Wd E x m g o) (Wd E x m g o) (some (.int r)) := by
  unfold f_X0_severityOf at hf
  refine m_in (by decide) (Nat.le_of_ble_eq_true rfl) ?_
  intro p e s mi args below meth c H ls hx hb hr hlk hml hown hB hK hW hS hl
  have hl : lv_has ls 2 [(0, rf E (b + 7)), (1, .int a0)] := hl
  refine lv_aload_n hx hb dX0_severityOf_0 rfl (lv_at hl 0 rfl) ?_
  refine lv_iload_n hx hb dX0_severityOf_1 rfl (lv_at hl 1 rfl) ?_
  obtain ⟨v2, e2, hf⟩ := ob2 hf
  refine c_V (As := [.int a0]) (st1 := [.int v2]) (rest := []) (p_X0_has l E hB_b x m g o e2) (kc_X0_47 hB ⟨Nat.le_of_ble_eq_true rfl, Nat.le_of_ble_eq_true rfl⟩) (Wd.rec hK hW (hB_b.l8 (j := 7) (by decide)) (cB_7 hB_b) (ci := 0) rfl) hx hb hml hown hB hK hW hS ⟨Nat.le_refl 0, Nat.le_refl 0⟩ rfl hl.1 rfl (Nat.le_of_ble_eq_true rfl) rfl dX0_severityOf_2 (fun H locs hW hS => ?_)
  refine lv_if_eq (tgt := 17) hx hb dX0_severityOf_5 (by decide) (fun c5 => ?_) (fun c5 => ?_)
  · rw [if_pos c5] at hf
    refine lv_iconst (v := (-1)) hx hb dX0_severityOf_17 (by decide) ?_
    cases hf
    exact e_i hx hb hr hlk hW hS dX0_severityOf_18
  · rw [if_neg c5] at hf
    refine lv_aload_n hx hb dX0_severityOf_8 rfl (lv_at hl 0 rfl) ?_
    refine gf_X0_15 hx hb hB hK hown hW hB_b dX0_severityOf_9 ?_
    refine lv_iload_n hx hb dX0_severityOf_12 rfl (lv_at hl 1 rfl) ?_
    obtain ⟨v13, e13, hf⟩ := ob2 hf
    refine r_iald hx hb hK hW (hB_b.l8 (by decide)) (cB_9 hB_b) e13 dX0_severityOf_13 ?_
    refine lv_goto (tgt := 18) hx hb dX0_severityOf_14 (by decide) ?_
    cases hf
    exact e_i hx hb hr hlk hW hS dX0_severityOf_18
def f_X1_leastOf (b : Nat) (x : XS) (a0 : Int32) (a1 : Int32) : Option (Int32) :=
    (f_X1_has b x a0 a1).bind fun v3 =>
    if (v3 = 0 : Prop) then
      some 0
    else
      ((aget 24 (x (b + 4)) ((a0 * 6) + a1)).bind fun v19 =>
      some v19)
set_option maxRecDepth 100000 in
set_option maxHeartbeats 4000000 in
theorem p_X1_leastOf (l : Launch) (E : TE) {b : Nat} (hB_b : IsB b) (x m : XS) (g o : Int64) {a0 : Int32} {a1 : Int32} {r : Int32} (hf : f_X1_leastOf b x a0 a1 = some r) : MG l E yX1_leastOf cX1_leastOf 3 (some .int) 2 [rf E (b + 1), .int a0, .int a1] (Wd E x m g o) (Wd E x m g o) (some (.int r)) := by
  unfold f_X1_leastOf at hf
  refine m_in (by decide) (Nat.le_of_ble_eq_true rfl) ?_
  intro p e s mi args below meth c H ls hx hb hr hlk hml hown hB hK hW hS hl
  have hl : lv_has ls 3 [(0, rf E (b + 1)), (1, .int a0), (2, .int a1)] := hl
  refine lv_aload_n hx hb dX1_leastOf_0 rfl (lv_at hl 0 rfl) ?_
  refine lv_iload_n hx hb dX1_leastOf_1 rfl (lv_at hl 1 rfl) ?_
  refine lv_iload_n hx hb dX1_leastOf_2 rfl (lv_at hl 2 rfl) ?_
  obtain ⟨v3, e3, hf⟩ := ob2 hf
  refine c_V (As := [.int a0, .int a1]) (st1 := [.int v3]) (rest := []) (p_X1_has l E hB_b x m g o e3) (kc_X1_35 hB ⟨Nat.le_of_ble_eq_true rfl, Nat.le_of_ble_eq_true rfl⟩) (Wd.rec hK hW (hB_b.l8 (j := 1) (by decide)) (cB_1 hB_b) (ci := 1) rfl) hx hb hml hown hB hK hW hS ⟨Nat.le_refl 0, Nat.le_refl 0⟩ rfl hl.1 rfl (Nat.le_of_ble_eq_true rfl) rfl dX1_leastOf_3 (fun H locs hW hS => ?_)
  refine lv_if_eq (tgt := 23) hx hb dX1_leastOf_6 (by decide) (fun c6 => ?_) (fun c6 => ?_)
  · rw [if_pos c6] at hf
    refine lv_iconst (v := 0) hx hb dX1_leastOf_23 (by decide) ?_
    cases hf
    exact e_i hx hb hr hlk hW hS dX1_leastOf_24
  · rw [if_neg c6] at hf
    refine lv_aload_n hx hb dX1_leastOf_9 rfl (lv_at hl 0 rfl) ?_
    refine gf_X1_18 hx hb hB hK hown hW hB_b dX1_leastOf_10 ?_
    refine lv_iload_n hx hb dX1_leastOf_13 rfl (lv_at hl 1 rfl) ?_
    refine lv_bipush (v := 6) hx hb dX1_leastOf_14 (by decide) ?_
    refine lv_imul hx hb dX1_leastOf_16 ?_
    refine lv_iload_n hx hb dX1_leastOf_17 rfl (lv_at hl 2 rfl) ?_
    refine lv_iadd hx hb dX1_leastOf_18 ?_
    obtain ⟨v19, e19, hf⟩ := ob2 hf
    refine r_iald hx hb hK hW (hB_b.l8 (by decide)) (cB_4 hB_b) e19 dX1_leastOf_19 ?_
    refine lv_goto (tgt := 24) hx hb dX1_leastOf_20 (by decide) ?_
    cases hf
    exact e_i hx hb hr hlk hW hS dX1_leastOf_24
def f_X1_mostOf (b : Nat) (x : XS) (a0 : Int32) (a1 : Int32) : Option (Int32) :=
    (f_X1_has b x a0 a1).bind fun v3 =>
    if (v3 = 0 : Prop) then
      some 0
    else
      ((aget 24 (x (b + 5)) ((a0 * 6) + a1)).bind fun v19 =>
      some v19)
set_option maxRecDepth 100000 in
set_option maxHeartbeats 4000000 in
theorem p_X1_mostOf (l : Launch) (E : TE) {b : Nat} (hB_b : IsB b) (x m : XS) (g o : Int64) {a0 : Int32} {a1 : Int32} {r : Int32} (hf : f_X1_mostOf b x a0 a1 = some r) : MG l E yX1_mostOf cX1_mostOf 3 (some .int) 2 [rf E (b + 1), .int a0, .int a1] (Wd E x m g o) (Wd E x m g o) (some (.int r)) := by
  unfold f_X1_mostOf at hf
  refine m_in (by decide) (Nat.le_of_ble_eq_true rfl) ?_
  intro p e s mi args below meth c H ls hx hb hr hlk hml hown hB hK hW hS hl
  have hl : lv_has ls 3 [(0, rf E (b + 1)), (1, .int a0), (2, .int a1)] := hl
  refine lv_aload_n hx hb dX1_mostOf_0 rfl (lv_at hl 0 rfl) ?_
  refine lv_iload_n hx hb dX1_mostOf_1 rfl (lv_at hl 1 rfl) ?_
  refine lv_iload_n hx hb dX1_mostOf_2 rfl (lv_at hl 2 rfl) ?_
  obtain ⟨v3, e3, hf⟩ := ob2 hf
  refine c_V (As := [.int a0, .int a1]) (st1 := [.int v3]) (rest := []) (p_X1_has l E hB_b x m g o e3) (kc_X1_35 hB ⟨Nat.le_of_ble_eq_true rfl, Nat.le_of_ble_eq_true rfl⟩) (Wd.rec hK hW (hB_b.l8 (j := 1) (by decide)) (cB_1 hB_b) (ci := 1) rfl) hx hb hml hown hB hK hW hS ⟨Nat.le_refl 0, Nat.le_refl 0⟩ rfl hl.1 rfl (Nat.le_of_ble_eq_true rfl) rfl dX1_mostOf_3 (fun H locs hW hS => ?_)
  refine lv_if_eq (tgt := 23) hx hb dX1_mostOf_6 (by decide) (fun c6 => ?_) (fun c6 => ?_)
  · rw [if_pos c6] at hf
    refine lv_iconst (v := 0) hx hb dX1_mostOf_23 (by decide) ?_
    cases hf
    exact e_i hx hb hr hlk hW hS dX1_mostOf_24
  · rw [if_neg c6] at hf
    refine lv_aload_n hx hb dX1_mostOf_9 rfl (lv_at hl 0 rfl) ?_
    refine gf_X1_21 hx hb hB hK hown hW hB_b dX1_mostOf_10 ?_
    refine lv_iload_n hx hb dX1_mostOf_13 rfl (lv_at hl 1 rfl) ?_
    refine lv_bipush (v := 6) hx hb dX1_mostOf_14 (by decide) ?_
    refine lv_imul hx hb dX1_mostOf_16 ?_
    refine lv_iload_n hx hb dX1_mostOf_17 rfl (lv_at hl 2 rfl) ?_
    refine lv_iadd hx hb dX1_mostOf_18 ?_
    obtain ⟨v19, e19, hf⟩ := ob2 hf
    refine r_iald hx hb hK hW (hB_b.l8 (by decide)) (cB_5 hB_b) e19 dX1_mostOf_19 ?_
    refine lv_goto (tgt := 24) hx hb dX1_mostOf_20 (by decide) ?_
    cases hf
    exact e_i hx hb hr hlk hW hS dX1_mostOf_24
def f_X1_covers (b : Nat) (x : XS) (a0 : Int32) (a1 : Int32) (a2 : Int32) : Option (Int32) :=
    (f_X1_leastOf b x a0 a1).bind fun v4 =>
    (f_X1_mostOf b x a0 a1).bind fun v10 =>
    (f_X4_isWithin a2 v4 v10).bind fun v13 =>
    if (v13 = 0 ∨ v13 = 1 : Prop) then some v13 else none
set_option maxRecDepth 100000 in
set_option maxHeartbeats 4000000 in
theorem p_X1_covers (l : Launch) (E : TE) {b : Nat} (hB_b : IsB b) (x m : XS) (g o : Int64) {a0 : Int32} {a1 : Int32} {a2 : Int32} {r : Int32} (hf : f_X1_covers b x a0 a1 a2 = some r) : MG l E yX1_covers cX1_covers 4 (some .boolean) 3 [rf E (b + 1), .int a0, .int a1, .int a2] (Wd E x m g o) (Wd E x m g o) (some (.int r)) := by
  unfold f_X1_covers at hf
  refine m_in (by decide) (Nat.le_of_ble_eq_true rfl) ?_
  intro p e s mi args below meth c H ls hx hb hr hlk hml hown hB hK hW hS hl
  have hl : lv_has ls 4 [(0, rf E (b + 1)), (1, .int a0), (2, .int a1), (3, .int a2)] := hl
  refine lv_iload_n hx hb dX1_covers_0 rfl (lv_at hl 3 rfl) ?_
  refine lv_aload_n hx hb dX1_covers_1 rfl (lv_at hl 0 rfl) ?_
  refine lv_iload_n hx hb dX1_covers_2 rfl (lv_at hl 1 rfl) ?_
  refine lv_iload_n hx hb dX1_covers_3 rfl (lv_at hl 2 rfl) ?_
  obtain ⟨v4, e4, hf⟩ := ob2 hf
  refine c_V (As := [.int a0, .int a1]) (st1 := [.int v4, .int a2]) (rest := [.int a2]) (p_X1_leastOf l E hB_b x m g o e4) (kc_X1_39 hB ⟨Nat.le_of_ble_eq_true rfl, Nat.le_of_ble_eq_true rfl⟩) (Wd.rec hK hW (hB_b.l8 (j := 1) (by decide)) (cB_1 hB_b) (ci := 1) rfl) hx hb hml hown hB hK hW hS ⟨Nat.le_refl 0, Nat.le_refl 0⟩ rfl hl.1 rfl (Nat.le_of_ble_eq_true rfl) rfl dX1_covers_4 (fun H locs hW hS => ?_)
  refine lv_aload_n hx hb dX1_covers_7 rfl (lv_at hl 0 rfl) ?_
  refine lv_iload_n hx hb dX1_covers_8 rfl (lv_at hl 1 rfl) ?_
  refine lv_iload_n hx hb dX1_covers_9 rfl (lv_at hl 2 rfl) ?_
  obtain ⟨v10, e10, hf⟩ := ob2 hf
  refine c_V (As := [.int a0, .int a1]) (st1 := [.int v10, .int v4, .int a2]) (rest := [.int v4, .int a2]) (p_X1_mostOf l E hB_b x m g o e10) (kc_X1_43 hB ⟨Nat.le_of_ble_eq_true rfl, Nat.le_of_ble_eq_true rfl⟩) (Wd.rec hK hW (hB_b.l8 (j := 1) (by decide)) (cB_1 hB_b) (ci := 1) rfl) hx hb hml hown hB hK hW hS ⟨Nat.le_refl 0, Nat.le_refl 0⟩ rfl hl.1 rfl (Nat.le_of_ble_eq_true rfl) rfl dX1_covers_10 (fun H locs hW hS => ?_)
  obtain ⟨v13, e13, hf⟩ := ob2 hf
  refine c_SN (As := [.int a2, .int v4, .int v10]) (st1 := [.int v13]) (rest := []) (p_X4_isWithin l E x m g o e13) (kc_X1_46 hB hK ⟨Nat.le_of_ble_eq_true rfl, Nat.le_of_ble_eq_true rfl⟩) hx hb hml hown hB hK hW hS ⟨Nat.le_refl 0, Nat.le_refl 0⟩ rfl hl.1 rfl (Nat.le_of_ble_eq_true rfl) rfl dX1_covers_13 (fun H locs hW hS => ?_)
  obtain ⟨zb, hf⟩ := oif hf
  cases hf
  exact e_z hx hb hr hlk zb hW hS dX1_covers_16
def f_X0_groupOf (b : Nat) (x : XS) (a0 : Int32) : Option (Int32) :=
    (f_X0_has b x a0).bind fun v2 =>
    if (v2 = 0 : Prop) then
      some (-1)
    else
      ((aget 24 (x (b + 9)) a0).bind fun v13 =>
      some ((v13 - 1) / 3))
set_option maxRecDepth 100000 in
set_option maxHeartbeats 4000000 in
theorem p_X0_groupOf (l : Launch) (E : TE) {b : Nat} (hB_b : IsB b) (x m : XS) (g o : Int64) {a0 : Int32} {r : Int32} (hf : f_X0_groupOf b x a0 = some r) : MG l E yX0_groupOf cX0_groupOf 2 (some .int) 1 [rf E (b + 7), .int a0] (Wd E x m g o) (Wd E x m g o) (some (.int r)) := by
  unfold f_X0_groupOf at hf
  refine m_in (by decide) (Nat.le_of_ble_eq_true rfl) ?_
  intro p e s mi args below meth c H ls hx hb hr hlk hml hown hB hK hW hS hl
  have hl : lv_has ls 2 [(0, rf E (b + 7)), (1, .int a0)] := hl
  refine lv_aload_n hx hb dX0_groupOf_0 rfl (lv_at hl 0 rfl) ?_
  refine lv_iload_n hx hb dX0_groupOf_1 rfl (lv_at hl 1 rfl) ?_
  obtain ⟨v2, e2, hf⟩ := ob2 hf
  refine c_V (As := [.int a0]) (st1 := [.int v2]) (rest := []) (p_X0_has l E hB_b x m g o e2) (kc_X0_47 hB ⟨Nat.le_of_ble_eq_true rfl, Nat.le_of_ble_eq_true rfl⟩) (Wd.rec hK hW (hB_b.l8 (j := 7) (by decide)) (cB_7 hB_b) (ci := 0) rfl) hx hb hml hown hB hK hW hS ⟨Nat.le_refl 0, Nat.le_refl 0⟩ rfl hl.1 rfl (Nat.le_of_ble_eq_true rfl) rfl dX0_groupOf_2 (fun H locs hW hS => ?_)
  refine lv_if_eq (tgt := 21) hx hb dX0_groupOf_5 (by decide) (fun c5 => ?_) (fun c5 => ?_)
  · rw [if_pos c5] at hf
    refine lv_iconst (v := (-1)) hx hb dX0_groupOf_21 (by decide) ?_
    cases hf
    exact e_i hx hb hr hlk hW hS dX0_groupOf_22
  · rw [if_neg c5] at hf
    refine lv_aload_n hx hb dX0_groupOf_8 rfl (lv_at hl 0 rfl) ?_
    refine gf_X0_15 hx hb hB hK hown hW hB_b dX0_groupOf_9 ?_
    refine lv_iload_n hx hb dX0_groupOf_12 rfl (lv_at hl 1 rfl) ?_
    obtain ⟨v13, e13, hf⟩ := ob2 hf
    refine r_iald hx hb hK hW (hB_b.l8 (by decide)) (cB_9 hB_b) e13 dX0_groupOf_13 ?_
    refine lv_iconst (v := 1) hx hb dX0_groupOf_14 (by decide) ?_
    refine lv_isub hx hb dX0_groupOf_15 ?_
    refine lv_iconst (v := 3) hx hb dX0_groupOf_16 (by decide) ?_
    refine lv_idiv hx hb dX0_groupOf_17 (by decide) ?_
    refine lv_goto (tgt := 22) hx hb dX0_groupOf_18 (by decide) ?_
    cases hf
    exact e_i hx hb hr hlk hW hS dX0_groupOf_22
def f_X2_latestOf (b : Nat) (x : XS) (a0 : Int32) (a1 : Int32) : Option (Int32) :=
    (f_X4_isKind a0).bind fun v1 =>
    if (v1 = 0 : Prop) then
      some (-1)
    else
      ((f_X4_isGroup a1).bind fun v8 =>
      if (v8 = 0 : Prop) then
        some (-1)
      else
        ((aget 12 (x (b + 21)) ((a0 * 3) + a1)).bind fun v23 =>
        some v23))
set_option maxRecDepth 100000 in
set_option maxHeartbeats 4000000 in
theorem p_X2_latestOf (l : Launch) (E : TE) {b : Nat} (hB_b : IsB b) (x m : XS) (g o : Int64) {a0 : Int32} {a1 : Int32} {r : Int32} (hf : f_X2_latestOf b x a0 a1 = some r) : MG l E yX2_latestOf cX2_latestOf 3 (some .int) 1 [rf E (b + 17), .int a0, .int a1] (Wd E x m g o) (Wd E x m g o) (some (.int r)) := by
  unfold f_X2_latestOf at hf
  refine m_in (by decide) (Nat.le_of_ble_eq_true rfl) ?_
  intro p e s mi args below meth c H ls hx hb hr hlk hml hown hB hK hW hS hl
  have hl : lv_has ls 3 [(0, rf E (b + 17)), (1, .int a0), (2, .int a1)] := hl
  refine lv_iload_n hx hb dX2_latestOf_0 rfl (lv_at hl 1 rfl) ?_
  obtain ⟨v1, e1, hf⟩ := ob2 hf
  refine c_SN (As := [.int a0]) (st1 := [.int v1]) (rest := []) (p_X4_isKind l E x m g o e1) (kc_X2_38 hB hK ⟨Nat.le_of_ble_eq_true rfl, Nat.le_of_ble_eq_true rfl⟩) hx hb hml hown hB hK hW hS ⟨Nat.le_refl 0, Nat.le_refl 0⟩ rfl hl.1 rfl (Nat.le_of_ble_eq_true rfl) rfl dX2_latestOf_1 (fun H locs hW hS => ?_)
  refine lv_if_eq (tgt := 27) hx hb dX2_latestOf_4 (by decide) (fun c4 => ?_) (fun c4 => ?_)
  · rw [if_pos c4] at hf
    refine lv_iconst (v := (-1)) hx hb dX2_latestOf_27 (by decide) ?_
    cases hf
    exact e_i hx hb hr hlk hW hS dX2_latestOf_28
  · rw [if_neg c4] at hf
    refine lv_iload_n hx hb dX2_latestOf_7 rfl (lv_at hl 2 rfl) ?_
    obtain ⟨v8, e8, hf⟩ := ob2 hf
    refine c_SN (As := [.int a1]) (st1 := [.int v8]) (rest := []) (p_X4_isGroup l E x m g o e8) (kc_X2_42 hB hK ⟨Nat.le_of_ble_eq_true rfl, Nat.le_of_ble_eq_true rfl⟩) hx hb hml hown hB hK hW hS ⟨Nat.le_refl 0, Nat.le_refl 0⟩ rfl hl.1 rfl (Nat.le_of_ble_eq_true rfl) rfl dX2_latestOf_8 (fun H locs hW hS => ?_)
    refine lv_if_eq (tgt := 27) hx hb dX2_latestOf_11 (by decide) (fun c11 => ?_) (fun c11 => ?_)
    · rw [if_pos c11] at hf
      refine lv_iconst (v := (-1)) hx hb dX2_latestOf_27 (by decide) ?_
      cases hf
      exact e_i hx hb hr hlk hW hS dX2_latestOf_28
    · rw [if_neg c11] at hf
      refine lv_aload_n hx hb dX2_latestOf_14 rfl (lv_at hl 0 rfl) ?_
      refine gf_X2_21 hx hb hB hK hown hW hB_b dX2_latestOf_15 ?_
      refine lv_iload_n hx hb dX2_latestOf_18 rfl (lv_at hl 1 rfl) ?_
      refine lv_iconst (v := 3) hx hb dX2_latestOf_19 (by decide) ?_
      refine lv_imul hx hb dX2_latestOf_20 ?_
      refine lv_iload_n hx hb dX2_latestOf_21 rfl (lv_at hl 2 rfl) ?_
      refine lv_iadd hx hb dX2_latestOf_22 ?_
      obtain ⟨v23, e23, hf⟩ := ob2 hf
      refine r_iald hx hb hK hW (hB_b.l8 (by decide)) (cB_21 hB_b) e23 dX2_latestOf_23 ?_
      refine lv_goto (tgt := 28) hx hb dX2_latestOf_24 (by decide) ?_
      cases hf
      exact e_i hx hb hr hlk hW hS dX2_latestOf_28
def f_X2_has (b : Nat) (x : XS) (a0 : Int32) : Option (Int32) :=
    if (a0 < 0 : Prop) then
      some 0
    else
      (if ((x (b + 17) 0) ≤ a0 : Prop) then
        some 0
      else
        some 1)
set_option maxRecDepth 100000 in
set_option maxHeartbeats 4000000 in
theorem p_X2_has (l : Launch) (E : TE) {b : Nat} (hB_b : IsB b) (x m : XS) (g o : Int64) {a0 : Int32} {r : Int32} (hf : f_X2_has b x a0 = some r) : MG l E yX2_has cX2_has 2 (some .boolean) 0 [rf E (b + 17), .int a0] (Wd E x m g o) (Wd E x m g o) (some (.int r)) := by
  unfold f_X2_has at hf
  refine m_in (by decide) (Nat.le_of_ble_eq_true rfl) ?_
  intro p e s mi args below meth c H ls hx hb hr hlk hml hown hB hK hW hS hl
  have hl : lv_has ls 2 [(0, rf E (b + 17)), (1, .int a0)] := hl
  refine lv_iload_n hx hb dX2_has_0 rfl (lv_at hl 1 rfl) ?_
  refine lv_if_lt (tgt := 16) hx hb dX2_has_1 (by decide) (fun c1 => ?_) (fun c1 => ?_)
  · rw [if_pos c1] at hf
    refine lv_iconst (v := 0) hx hb dX2_has_16 (by decide) ?_
    cases hf
    exact e_z hx hb hr hlk (Or.inl rfl) hW hS dX2_has_17
  · rw [if_neg c1] at hf
    refine lv_iload_n hx hb dX2_has_4 rfl (lv_at hl 1 rfl) ?_
    refine lv_aload_n hx hb dX2_has_5 rfl (lv_at hl 0 rfl) ?_
    refine gf_X2_30 hx hb hB hK hown hW hB_b dX2_has_6 ?_
    refine lv_icmp_ge (tgt := 16) hx hb dX2_has_9 (by decide) (fun c9 => ?_) (fun c9 => ?_)
    · rw [if_pos c9] at hf
      refine lv_iconst (v := 0) hx hb dX2_has_16 (by decide) ?_
      cases hf
      exact e_z hx hb hr hlk (Or.inl rfl) hW hS dX2_has_17
    · rw [if_neg c9] at hf
      refine lv_iconst (v := 1) hx hb dX2_has_12 (by decide) ?_
      refine lv_goto (tgt := 17) hx hb dX2_has_13 (by decide) ?_
      cases hf
      exact e_z hx hb hr hlk (Or.inr rfl) hW hS dX2_has_17
def f_X2_monthOf (b : Nat) (x : XS) (a0 : Int32) : Option (Int32) :=
    (f_X2_has b x a0).bind fun v2 =>
    if (v2 = 0 : Prop) then
      some (-1)
    else
      ((aget 24 (x (b + 19)) a0).bind fun v13 =>
      some v13)
set_option maxRecDepth 100000 in
set_option maxHeartbeats 4000000 in
theorem p_X2_monthOf (l : Launch) (E : TE) {b : Nat} (hB_b : IsB b) (x m : XS) (g o : Int64) {a0 : Int32} {r : Int32} (hf : f_X2_monthOf b x a0 = some r) : MG l E yX2_monthOf cX2_monthOf 2 (some .int) 1 [rf E (b + 17), .int a0] (Wd E x m g o) (Wd E x m g o) (some (.int r)) := by
  unfold f_X2_monthOf at hf
  refine m_in (by decide) (Nat.le_of_ble_eq_true rfl) ?_
  intro p e s mi args below meth c H ls hx hb hr hlk hml hown hB hK hW hS hl
  have hl : lv_has ls 2 [(0, rf E (b + 17)), (1, .int a0)] := hl
  refine lv_aload_n hx hb dX2_monthOf_0 rfl (lv_at hl 0 rfl) ?_
  refine lv_iload_n hx hb dX2_monthOf_1 rfl (lv_at hl 1 rfl) ?_
  obtain ⟨v2, e2, hf⟩ := ob2 hf
  refine c_V (As := [.int a0]) (st1 := [.int v2]) (rest := []) (p_X2_has l E hB_b x m g o e2) (kc_X2_45 hB ⟨Nat.le_of_ble_eq_true rfl, Nat.le_of_ble_eq_true rfl⟩) (Wd.rec hK hW (hB_b.l8 (j := 17) (by decide)) (cB_17 hB_b) (ci := 2) rfl) hx hb hml hown hB hK hW hS ⟨Nat.le_refl 0, Nat.le_refl 0⟩ rfl hl.1 rfl (Nat.le_of_ble_eq_true rfl) rfl dX2_monthOf_2 (fun H locs hW hS => ?_)
  refine lv_if_eq (tgt := 17) hx hb dX2_monthOf_5 (by decide) (fun c5 => ?_) (fun c5 => ?_)
  · rw [if_pos c5] at hf
    refine lv_iconst (v := (-1)) hx hb dX2_monthOf_17 (by decide) ?_
    cases hf
    exact e_i hx hb hr hlk hW hS dX2_monthOf_18
  · rw [if_neg c5] at hf
    refine lv_aload_n hx hb dX2_monthOf_8 rfl (lv_at hl 0 rfl) ?_
    refine gf_X2_15 hx hb hB hK hown hW hB_b dX2_monthOf_9 ?_
    refine lv_iload_n hx hb dX2_monthOf_12 rfl (lv_at hl 1 rfl) ?_
    obtain ⟨v13, e13, hf⟩ := ob2 hf
    refine r_iald hx hb hK hW (hB_b.l8 (by decide)) (cB_19 hB_b) e13 dX2_monthOf_13 ?_
    refine lv_goto (tgt := 18) hx hb dX2_monthOf_14 (by decide) ?_
    cases hf
    exact e_i hx hb hr hlk hW hS dX2_monthOf_18
def f_X2_amendsOf (b : Nat) (x : XS) (a0 : Int32) : Option (Int32) :=
    (f_X2_has b x a0).bind fun v2 =>
    if (v2 = 0 : Prop) then
      some (-1)
    else
      ((aget 24 (x (b + 18)) a0).bind fun v13 =>
      some v13)
set_option maxRecDepth 100000 in
set_option maxHeartbeats 4000000 in
theorem p_X2_amendsOf (l : Launch) (E : TE) {b : Nat} (hB_b : IsB b) (x m : XS) (g o : Int64) {a0 : Int32} {r : Int32} (hf : f_X2_amendsOf b x a0 = some r) : MG l E yX2_amendsOf cX2_amendsOf 2 (some .int) 1 [rf E (b + 17), .int a0] (Wd E x m g o) (Wd E x m g o) (some (.int r)) := by
  unfold f_X2_amendsOf at hf
  refine m_in (by decide) (Nat.le_of_ble_eq_true rfl) ?_
  intro p e s mi args below meth c H ls hx hb hr hlk hml hown hB hK hW hS hl
  have hl : lv_has ls 2 [(0, rf E (b + 17)), (1, .int a0)] := hl
  refine lv_aload_n hx hb dX2_amendsOf_0 rfl (lv_at hl 0 rfl) ?_
  refine lv_iload_n hx hb dX2_amendsOf_1 rfl (lv_at hl 1 rfl) ?_
  obtain ⟨v2, e2, hf⟩ := ob2 hf
  refine c_V (As := [.int a0]) (st1 := [.int v2]) (rest := []) (p_X2_has l E hB_b x m g o e2) (kc_X2_45 hB ⟨Nat.le_of_ble_eq_true rfl, Nat.le_of_ble_eq_true rfl⟩) (Wd.rec hK hW (hB_b.l8 (j := 17) (by decide)) (cB_17 hB_b) (ci := 2) rfl) hx hb hml hown hB hK hW hS ⟨Nat.le_refl 0, Nat.le_refl 0⟩ rfl hl.1 rfl (Nat.le_of_ble_eq_true rfl) rfl dX2_amendsOf_2 (fun H locs hW hS => ?_)
  refine lv_if_eq (tgt := 17) hx hb dX2_amendsOf_5 (by decide) (fun c5 => ?_) (fun c5 => ?_)
  · rw [if_pos c5] at hf
    refine lv_iconst (v := (-1)) hx hb dX2_amendsOf_17 (by decide) ?_
    cases hf
    exact e_i hx hb hr hlk hW hS dX2_amendsOf_18
  · rw [if_neg c5] at hf
    refine lv_aload_n hx hb dX2_amendsOf_8 rfl (lv_at hl 0 rfl) ?_
    refine gf_X2_9 hx hb hB hK hown hW hB_b dX2_amendsOf_9 ?_
    refine lv_iload_n hx hb dX2_amendsOf_12 rfl (lv_at hl 1 rfl) ?_
    obtain ⟨v13, e13, hf⟩ := ob2 hf
    refine r_iald hx hb hK hW (hB_b.l8 (by decide)) (cB_18 hB_b) e13 dX2_amendsOf_13 ?_
    refine lv_goto (tgt := 18) hx hb dX2_amendsOf_14 (by decide) ?_
    cases hf
    exact e_i hx hb hr hlk hW hS dX2_amendsOf_18
def f_X1_costOf (b : Nat) (x : XS) (a0 : Int32) (a1 : Int32) : Option (Int32) :=
    (f_X1_has b x a0 a1).bind fun v3 =>
    if (v3 = 0 : Prop) then
      some 0
    else
      ((aget 24 (x (b + 3)) ((a0 * 6) + a1)).bind fun v19 =>
      some v19)
set_option maxRecDepth 100000 in
set_option maxHeartbeats 4000000 in
theorem p_X1_costOf (l : Launch) (E : TE) {b : Nat} (hB_b : IsB b) (x m : XS) (g o : Int64) {a0 : Int32} {a1 : Int32} {r : Int32} (hf : f_X1_costOf b x a0 a1 = some r) : MG l E yX1_costOf cX1_costOf 3 (some .int) 2 [rf E (b + 1), .int a0, .int a1] (Wd E x m g o) (Wd E x m g o) (some (.int r)) := by
  unfold f_X1_costOf at hf
  refine m_in (by decide) (Nat.le_of_ble_eq_true rfl) ?_
  intro p e s mi args below meth c H ls hx hb hr hlk hml hown hB hK hW hS hl
  have hl : lv_has ls 3 [(0, rf E (b + 1)), (1, .int a0), (2, .int a1)] := hl
  refine lv_aload_n hx hb dX1_costOf_0 rfl (lv_at hl 0 rfl) ?_
  refine lv_iload_n hx hb dX1_costOf_1 rfl (lv_at hl 1 rfl) ?_
  refine lv_iload_n hx hb dX1_costOf_2 rfl (lv_at hl 2 rfl) ?_
  obtain ⟨v3, e3, hf⟩ := ob2 hf
  refine c_V (As := [.int a0, .int a1]) (st1 := [.int v3]) (rest := []) (p_X1_has l E hB_b x m g o e3) (kc_X1_35 hB ⟨Nat.le_of_ble_eq_true rfl, Nat.le_of_ble_eq_true rfl⟩) (Wd.rec hK hW (hB_b.l8 (j := 1) (by decide)) (cB_1 hB_b) (ci := 1) rfl) hx hb hml hown hB hK hW hS ⟨Nat.le_refl 0, Nat.le_refl 0⟩ rfl hl.1 rfl (Nat.le_of_ble_eq_true rfl) rfl dX1_costOf_3 (fun H locs hW hS => ?_)
  refine lv_if_eq (tgt := 23) hx hb dX1_costOf_6 (by decide) (fun c6 => ?_) (fun c6 => ?_)
  · rw [if_pos c6] at hf
    refine lv_iconst (v := 0) hx hb dX1_costOf_23 (by decide) ?_
    cases hf
    exact e_i hx hb hr hlk hW hS dX1_costOf_24
  · rw [if_neg c6] at hf
    refine lv_aload_n hx hb dX1_costOf_9 rfl (lv_at hl 0 rfl) ?_
    refine gf_X1_15 hx hb hB hK hown hW hB_b dX1_costOf_10 ?_
    refine lv_iload_n hx hb dX1_costOf_13 rfl (lv_at hl 1 rfl) ?_
    refine lv_bipush (v := 6) hx hb dX1_costOf_14 (by decide) ?_
    refine lv_imul hx hb dX1_costOf_16 ?_
    refine lv_iload_n hx hb dX1_costOf_17 rfl (lv_at hl 2 rfl) ?_
    refine lv_iadd hx hb dX1_costOf_18 ?_
    obtain ⟨v19, e19, hf⟩ := ob2 hf
    refine r_iald hx hb hK hW (hB_b.l8 (by decide)) (cB_3 hB_b) e19 dX1_costOf_19 ?_
    refine lv_goto (tgt := 24) hx hb dX1_costOf_20 (by decide) ?_
    cases hf
    exact e_i hx hb hr hlk hW hS dX1_costOf_24
def f_X0_gotOf (b : Nat) (x : XS) (a0 : Int32) : Option (Int32) :=
    (f_X0_has b x a0).bind fun v2 =>
    if (v2 = 0 : Prop) then
      some 0
    else
      ((aget 24 (x (b + 13)) a0).bind fun v13 =>
      some v13)
set_option maxRecDepth 100000 in
set_option maxHeartbeats 4000000 in
theorem p_X0_gotOf (l : Launch) (E : TE) {b : Nat} (hB_b : IsB b) (x m : XS) (g o : Int64) {a0 : Int32} {r : Int32} (hf : f_X0_gotOf b x a0 = some r) : MG l E yX0_gotOf cX0_gotOf 2 (some .int) 1 [rf E (b + 7), .int a0] (Wd E x m g o) (Wd E x m g o) (some (.int r)) := by
  unfold f_X0_gotOf at hf
  refine m_in (by decide) (Nat.le_of_ble_eq_true rfl) ?_
  intro p e s mi args below meth c H ls hx hb hr hlk hml hown hB hK hW hS hl
  have hl : lv_has ls 2 [(0, rf E (b + 7)), (1, .int a0)] := hl
  refine lv_aload_n hx hb dX0_gotOf_0 rfl (lv_at hl 0 rfl) ?_
  refine lv_iload_n hx hb dX0_gotOf_1 rfl (lv_at hl 1 rfl) ?_
  obtain ⟨v2, e2, hf⟩ := ob2 hf
  refine c_V (As := [.int a0]) (st1 := [.int v2]) (rest := []) (p_X0_has l E hB_b x m g o e2) (kc_X0_47 hB ⟨Nat.le_of_ble_eq_true rfl, Nat.le_of_ble_eq_true rfl⟩) (Wd.rec hK hW (hB_b.l8 (j := 7) (by decide)) (cB_7 hB_b) (ci := 0) rfl) hx hb hml hown hB hK hW hS ⟨Nat.le_refl 0, Nat.le_refl 0⟩ rfl hl.1 rfl (Nat.le_of_ble_eq_true rfl) rfl dX0_gotOf_2 (fun H locs hW hS => ?_)
  refine lv_if_eq (tgt := 17) hx hb dX0_gotOf_5 (by decide) (fun c5 => ?_) (fun c5 => ?_)
  · rw [if_pos c5] at hf
    refine lv_iconst (v := 0) hx hb dX0_gotOf_17 (by decide) ?_
    cases hf
    exact e_i hx hb hr hlk hW hS dX0_gotOf_18
  · rw [if_neg c5] at hf
    refine lv_aload_n hx hb dX0_gotOf_8 rfl (lv_at hl 0 rfl) ?_
    refine gf_X0_27 hx hb hB hK hown hW hB_b dX0_gotOf_9 ?_
    refine lv_iload_n hx hb dX0_gotOf_12 rfl (lv_at hl 1 rfl) ?_
    obtain ⟨v13, e13, hf⟩ := ob2 hf
    refine r_iald hx hb hK hW (hB_b.l8 (by decide)) (cB_13 hB_b) e13 dX0_gotOf_13 ?_
    refine lv_goto (tgt := 18) hx hb dX0_gotOf_14 (by decide) ?_
    cases hf
    exact e_i hx hb hr hlk hW hS dX0_gotOf_18
def f_X0_give (b : Nat) (x : XS) (a0 : Int32) (a1 : Int32) (a2 : Int32) : Option (XS) :=
    (f_X0_has b x a0).bind fun v2 =>
    if (v2 = 0 : Prop) then
      some x
    else
      ((aset x (b + 12) 24 a0 a1).bind fun x14 =>
      (aset x14 (b + 13) 24 a0 a2).bind fun x21 =>
      some x21)
set_option maxRecDepth 100000 in
set_option maxHeartbeats 4000000 in
theorem p_X0_give (l : Launch) (E : TE) {b : Nat} (hB_b : IsB b) (x m : XS) (g o : Int64) {a0 : Int32} {a1 : Int32} {a2 : Int32} {xr : XS} (hf : f_X0_give b x a0 a1 a2 = some xr) : MG l E yX0_give cX0_give 4 none 1 [rf E (b + 7), .int a0, .int a1, .int a2] (Wd E x m g o) (Wd E xr m g o) none := by
  unfold f_X0_give at hf
  refine m_in (by decide) (Nat.le_of_ble_eq_true rfl) ?_
  intro p e s mi args below meth c H ls hx hb hr hlk hml hown hB hK hW hS hl
  have hl : lv_has ls 4 [(0, rf E (b + 7)), (1, .int a0), (2, .int a1), (3, .int a2)] := hl
  refine lv_aload_n hx hb dX0_give_0 rfl (lv_at hl 0 rfl) ?_
  refine lv_iload_n hx hb dX0_give_1 rfl (lv_at hl 1 rfl) ?_
  obtain ⟨v2, e2, hf⟩ := ob2 hf
  refine c_V (As := [.int a0]) (st1 := [.int v2]) (rest := []) (p_X0_has l E hB_b x m g o e2) (kc_X0_47 hB ⟨Nat.le_of_ble_eq_true rfl, Nat.le_of_ble_eq_true rfl⟩) (Wd.rec hK hW (hB_b.l8 (j := 7) (by decide)) (cB_7 hB_b) (ci := 0) rfl) hx hb hml hown hB hK hW hS ⟨Nat.le_refl 0, Nat.le_refl 0⟩ rfl hl.1 rfl (Nat.le_of_ble_eq_true rfl) rfl dX0_give_2 (fun H locs hW hS => ?_)
  refine lv_if_eq (tgt := 22) hx hb dX0_give_5 (by decide) (fun c5 => ?_) (fun c5 => ?_)
  · rw [if_pos c5] at hf
    cases hf
    exact e_v hx hb hr hlk hW hS dX0_give_22
  · rw [if_neg c5] at hf
    refine lv_aload_n hx hb dX0_give_8 rfl (lv_at hl 0 rfl) ?_
    refine gf_X0_24 hx hb hB hK hown hW hB_b dX0_give_9 ?_
    refine lv_iload_n hx hb dX0_give_12 rfl (lv_at hl 1 rfl) ?_
    refine lv_iload_n hx hb dX0_give_13 rfl (lv_at hl 2 rfl) ?_
    obtain ⟨x14, e14, hf⟩ := ob2 hf
    refine r_iastX hx hb hK hW hS (hB_b.lt (by decide)) (fun _ => cB_12 hB_b) e14 dX0_give_14 (fun H locs hW hS => ?_)
    refine lv_aload_n hx hb dX0_give_15 rfl (lv_at hl 0 rfl) ?_
    refine gf_X0_27 hx hb hB hK hown hW hB_b dX0_give_16 ?_
    refine lv_iload_n hx hb dX0_give_19 rfl (lv_at hl 1 rfl) ?_
    refine lv_iload_n hx hb dX0_give_20 rfl (lv_at hl 3 rfl) ?_
    obtain ⟨x21, e21, hf⟩ := ob2 hf
    refine r_iastX hx hb hK hW hS (hB_b.lt (by decide)) (fun _ => cB_13 hB_b) e21 dX0_give_21 (fun H locs hW hS => ?_)
    cases hf
    exact e_v hx hb hr hlk hW hS dX0_give_22
def f_X2_add (b : Nat) (x : XS) (a0 : Int32) (a1 : Int32) (a2 : Int32) (a3 : Int32) (a4 : Int32) : Option (Int32 × XS) :=
    (f_X4_isKind a0).bind fun v1 =>
    if (v1 = 0 : Prop) then
      some ((-1), x)
    else
      ((f_X4_isGroup a1).bind fun v8 =>
      if (v8 = 0 : Prop) then
        some ((-1), x)
      else
        (if ((x (b + 17) 0) < 24 : Prop) then
          ((some ((x (b + 17) 0))).bind fun v29 =>
          (aset x (b + 18) 24 v29 a2).bind fun x38 =>
          (aset x38 (b + 19) 24 v29 a3).bind fun x47 =>
          (aset x47 (b + 20) 24 v29 a4).bind fun x56 =>
          (aset x56 (b + 21) 12 ((a0 * 3) + a1) v29).bind fun x68 =>
          (some (ux x68 (b + 17) 0 (v29 + 1))).bind fun x74 =>
          some (v29, x74))
        else
          some ((-1), x)))
set_option maxRecDepth 100000 in
set_option maxHeartbeats 4000000 in
theorem p_X2_add (l : Launch) (E : TE) {b : Nat} (hB_b : IsB b) (x m : XS) (g o : Int64) {a0 : Int32} {a1 : Int32} {a2 : Int32} {a3 : Int32} {a4 : Int32} {r : Int32} {xr : XS} (hf : f_X2_add b x a0 a1 a2 a3 a4 = some (r, xr)) : MG l E yX2_add cX2_add 7 (some .int) 1 [rf E (b + 17), .int a0, .int a1, .int a2, .int a3, .int a4] (Wd E x m g o) (Wd E xr m g o) (some (.int r)) := by
  unfold f_X2_add at hf
  refine m_in (by decide) (Nat.le_of_ble_eq_true rfl) ?_
  intro p e s mi args below meth c H ls hx hb hr hlk hml hown hB hK hW hS hl
  have hl : lv_has ls 7 [(0, rf E (b + 17)), (1, .int a0), (2, .int a1), (3, .int a2), (4, .int a3), (5, .int a4)] := hl
  refine lv_iload_n hx hb dX2_add_0 rfl (lv_at hl 1 rfl) ?_
  obtain ⟨v1, e1, hf⟩ := ob2 hf
  refine c_SN (As := [.int a0]) (st1 := [.int v1]) (rest := []) (p_X4_isKind l E x m g o e1) (kc_X2_38 hB hK ⟨Nat.le_of_ble_eq_true rfl, Nat.le_of_ble_eq_true rfl⟩) hx hb hml hown hB hK hW hS ⟨Nat.le_refl 0, Nat.le_refl 0⟩ rfl hl.1 rfl (Nat.le_of_ble_eq_true rfl) rfl dX2_add_1 (fun H locs hW hS => ?_)
  refine lv_if_eq (tgt := 23) hx hb dX2_add_4 (by decide) (fun c4 => ?_) (fun c4 => ?_)
  · rw [if_pos c4] at hf
    refine lv_iconst (v := (-1)) hx hb dX2_add_23 (by decide) ?_
    cases hf
    exact e_i hx hb hr hlk hW hS dX2_add_24
  · rw [if_neg c4] at hf
    refine lv_iload_n hx hb dX2_add_7 rfl (lv_at hl 2 rfl) ?_
    obtain ⟨v8, e8, hf⟩ := ob2 hf
    refine c_SN (As := [.int a1]) (st1 := [.int v8]) (rest := []) (p_X4_isGroup l E x m g o e8) (kc_X2_42 hB hK ⟨Nat.le_of_ble_eq_true rfl, Nat.le_of_ble_eq_true rfl⟩) hx hb hml hown hB hK hW hS ⟨Nat.le_refl 0, Nat.le_refl 0⟩ rfl hl.1 rfl (Nat.le_of_ble_eq_true rfl) rfl dX2_add_8 (fun H locs hW hS => ?_)
    refine lv_if_eq (tgt := 23) hx hb dX2_add_11 (by decide) (fun c11 => ?_) (fun c11 => ?_)
    · rw [if_pos c11] at hf
      refine lv_iconst (v := (-1)) hx hb dX2_add_23 (by decide) ?_
      cases hf
      exact e_i hx hb hr hlk hW hS dX2_add_24
    · rw [if_neg c11] at hf
      refine lv_aload_n hx hb dX2_add_14 rfl (lv_at hl 0 rfl) ?_
      refine gf_X2_30 hx hb hB hK hown hW hB_b dX2_add_15 ?_
      refine lv_bipush (v := 24) hx hb dX2_add_18 (by decide) ?_
      refine lv_icmp_lt (tgt := 25) hx hb dX2_add_20 (by decide) (fun c20 => ?_) (fun c20 => ?_)
      · rw [if_pos c20] at hf
        refine lv_aload_n hx hb dX2_add_25 rfl (lv_at hl 0 rfl) ?_
        refine gf_X2_30 hx hb hB hK hown hW hB_b dX2_add_26 ?_
        obtain ⟨v29, e29, hf⟩ := ob hf
        refine lv_nm e29 ?_
        refine lv_istore (lv' := [(6, .int v29), (0, rf E (b + 17)), (1, .int a0), (2, .int a1), (3, .int a2), (4, .int a3), (5, .int a4)]) hx hb dX2_add_29 hl (by decide) rfl (fun ls hl => ?_)
        refine lv_aload_n hx hb dX2_add_31 rfl (lv_at hl 1 rfl) ?_
        refine gf_X2_9 hx hb hB hK hown hW hB_b dX2_add_32 ?_
        refine lv_iload hx hb dX2_add_35 (lv_at hl 0 rfl) ?_
        refine lv_iload_n hx hb dX2_add_37 rfl (lv_at hl 4 rfl) ?_
        obtain ⟨x38, e38, hf⟩ := ob2 hf
        refine r_iastX hx hb hK hW hS (hB_b.lt (by decide)) (fun _ => cB_18 hB_b) e38 dX2_add_38 (fun H locs hW hS => ?_)
        refine lv_aload_n hx hb dX2_add_39 rfl (lv_at hl 1 rfl) ?_
        refine gf_X2_15 hx hb hB hK hown hW hB_b dX2_add_40 ?_
        refine lv_iload hx hb dX2_add_43 (lv_at hl 0 rfl) ?_
        refine lv_iload hx hb dX2_add_45 (lv_at hl 5 rfl) ?_
        obtain ⟨x47, e47, hf⟩ := ob2 hf
        refine r_iastX hx hb hK hW hS (hB_b.lt (by decide)) (fun _ => cB_19 hB_b) e47 dX2_add_47 (fun H locs hW hS => ?_)
        refine lv_aload_n hx hb dX2_add_48 rfl (lv_at hl 1 rfl) ?_
        refine gf_X2_18 hx hb hB hK hown hW hB_b dX2_add_49 ?_
        refine lv_iload hx hb dX2_add_52 (lv_at hl 0 rfl) ?_
        refine lv_iload hx hb dX2_add_54 (lv_at hl 6 rfl) ?_
        obtain ⟨x56, e56, hf⟩ := ob2 hf
        refine r_iastX hx hb hK hW hS (hB_b.lt (by decide)) (fun _ => cB_20 hB_b) e56 dX2_add_56 (fun H locs hW hS => ?_)
        refine lv_aload_n hx hb dX2_add_57 rfl (lv_at hl 1 rfl) ?_
        refine gf_X2_21 hx hb hB hK hown hW hB_b dX2_add_58 ?_
        refine lv_iload_n hx hb dX2_add_61 rfl (lv_at hl 2 rfl) ?_
        refine lv_iconst (v := 3) hx hb dX2_add_62 (by decide) ?_
        refine lv_imul hx hb dX2_add_63 ?_
        refine lv_iload_n hx hb dX2_add_64 rfl (lv_at hl 3 rfl) ?_
        refine lv_iadd hx hb dX2_add_65 ?_
        refine lv_iload hx hb dX2_add_66 (lv_at hl 0 rfl) ?_
        obtain ⟨x68, e68, hf⟩ := ob2 hf
        refine r_iastX hx hb hK hW hS (hB_b.lt (by decide)) (fun _ => cB_21 hB_b) e68 dX2_add_68 (fun H locs hW hS => ?_)
        refine lv_aload_n hx hb dX2_add_69 rfl (lv_at hl 1 rfl) ?_
        refine lv_iload hx hb dX2_add_70 (lv_at hl 0 rfl) ?_
        refine lv_iconst (v := 1) hx hb dX2_add_72 (by decide) ?_
        refine lv_iadd hx hb dX2_add_73 ?_
        obtain ⟨x74, e74, hf⟩ := ob hf
        refine pf_X2_30 hx hb hB hK hown hW hS hB_b e74 dX2_add_74 (fun H locs hW hS => ?_)
        refine lv_iload hx hb dX2_add_77 (lv_at hl 0 rfl) ?_
        cases hf
        exact e_i hx hb hr hlk hW hS dX2_add_79
      · rw [if_neg c20] at hf
        refine lv_iconst (v := (-1)) hx hb dX2_add_23 (by decide) ?_
        cases hf
        exact e_i hx hb hr hlk hW hS dX2_add_24
def f_X0_noteDecision (b : Nat) (x : XS) (a0 : Int32) (a1 : Int32) (a2 : Int32) (a3 : Int32) : Option (XS) :=
    (f_X0_has b x a0).bind fun v2 =>
    if (v2 = 0 : Prop) then
      some x
    else
      ((aset x (b + 11) 24 a0 1).bind fun x14 =>
      (aset x14 (b + 15) 24 a0 a1).bind fun x21 =>
      (aset x21 (b + 16) 24 a0 a2).bind fun x28 =>
      (aset x28 (b + 14) 24 a0 a3).bind fun x36 =>
      some x36)
set_option maxRecDepth 100000 in
set_option maxHeartbeats 4000000 in
theorem p_X0_noteDecision (l : Launch) (E : TE) {b : Nat} (hB_b : IsB b) (x m : XS) (g o : Int64) {a0 : Int32} {a1 : Int32} {a2 : Int32} {a3 : Int32} {xr : XS} (hf : f_X0_noteDecision b x a0 a1 a2 a3 = some xr) : MG l E yX0_noteDecision cX0_noteDecision 5 none 1 [rf E (b + 7), .int a0, .int a1, .int a2, .int a3] (Wd E x m g o) (Wd E xr m g o) none := by
  unfold f_X0_noteDecision at hf
  refine m_in (by decide) (Nat.le_of_ble_eq_true rfl) ?_
  intro p e s mi args below meth c H ls hx hb hr hlk hml hown hB hK hW hS hl
  have hl : lv_has ls 5 [(0, rf E (b + 7)), (1, .int a0), (2, .int a1), (3, .int a2), (4, .int a3)] := hl
  refine lv_aload_n hx hb dX0_noteDecision_0 rfl (lv_at hl 0 rfl) ?_
  refine lv_iload_n hx hb dX0_noteDecision_1 rfl (lv_at hl 1 rfl) ?_
  obtain ⟨v2, e2, hf⟩ := ob2 hf
  refine c_V (As := [.int a0]) (st1 := [.int v2]) (rest := []) (p_X0_has l E hB_b x m g o e2) (kc_X0_47 hB ⟨Nat.le_of_ble_eq_true rfl, Nat.le_of_ble_eq_true rfl⟩) (Wd.rec hK hW (hB_b.l8 (j := 7) (by decide)) (cB_7 hB_b) (ci := 0) rfl) hx hb hml hown hB hK hW hS ⟨Nat.le_refl 0, Nat.le_refl 0⟩ rfl hl.1 rfl (Nat.le_of_ble_eq_true rfl) rfl dX0_noteDecision_2 (fun H locs hW hS => ?_)
  refine lv_if_eq (tgt := 37) hx hb dX0_noteDecision_5 (by decide) (fun c5 => ?_) (fun c5 => ?_)
  · rw [if_pos c5] at hf
    cases hf
    exact e_v hx hb hr hlk hW hS dX0_noteDecision_37
  · rw [if_neg c5] at hf
    refine lv_aload_n hx hb dX0_noteDecision_8 rfl (lv_at hl 0 rfl) ?_
    refine gf_X0_21 hx hb hB hK hown hW hB_b dX0_noteDecision_9 ?_
    refine lv_iload_n hx hb dX0_noteDecision_12 rfl (lv_at hl 1 rfl) ?_
    refine lv_iconst (v := 1) hx hb dX0_noteDecision_13 (by decide) ?_
    obtain ⟨x14, e14, hf⟩ := ob2 hf
    refine r_iastX hx hb hK hW hS (hB_b.lt (by decide)) (fun _ => cB_11 hB_b) e14 dX0_noteDecision_14 (fun H locs hW hS => ?_)
    refine lv_aload_n hx hb dX0_noteDecision_15 rfl (lv_at hl 0 rfl) ?_
    refine gf_X0_33 hx hb hB hK hown hW hB_b dX0_noteDecision_16 ?_
    refine lv_iload_n hx hb dX0_noteDecision_19 rfl (lv_at hl 1 rfl) ?_
    refine lv_iload_n hx hb dX0_noteDecision_20 rfl (lv_at hl 2 rfl) ?_
    obtain ⟨x21, e21, hf⟩ := ob2 hf
    refine r_iastX hx hb hK hW hS (hB_b.lt (by decide)) (fun _ => cB_15 hB_b) e21 dX0_noteDecision_21 (fun H locs hW hS => ?_)
    refine lv_aload_n hx hb dX0_noteDecision_22 rfl (lv_at hl 0 rfl) ?_
    refine gf_X0_36 hx hb hB hK hown hW hB_b dX0_noteDecision_23 ?_
    refine lv_iload_n hx hb dX0_noteDecision_26 rfl (lv_at hl 1 rfl) ?_
    refine lv_iload_n hx hb dX0_noteDecision_27 rfl (lv_at hl 3 rfl) ?_
    obtain ⟨x28, e28, hf⟩ := ob2 hf
    refine r_iastX hx hb hK hW hS (hB_b.lt (by decide)) (fun _ => cB_16 hB_b) e28 dX0_noteDecision_28 (fun H locs hW hS => ?_)
    refine lv_aload_n hx hb dX0_noteDecision_29 rfl (lv_at hl 0 rfl) ?_
    refine gf_X0_30 hx hb hB hK hown hW hB_b dX0_noteDecision_30 ?_
    refine lv_iload_n hx hb dX0_noteDecision_33 rfl (lv_at hl 1 rfl) ?_
    refine lv_iload hx hb dX0_noteDecision_34 (lv_at hl 4 rfl) ?_
    obtain ⟨x36, e36, hf⟩ := ob2 hf
    refine r_iastX hx hb hK hW hS (hB_b.lt (by decide)) (fun _ => cB_14 hB_b) e36 dX0_noteDecision_36 (fun H locs hW hS => ?_)
    cases hf
    exact e_v hx hb hr hlk hW hS dX0_noteDecision_37
def f_X0_followedBy (b : Nat) (x : XS) (a0 : Int32) : Option (Int32) :=
    (f_X0_has b x a0).bind fun v2 =>
    if (v2 = 0 : Prop) then
      some (-1)
    else
      ((aget 24 (x (b + 16)) a0).bind fun v13 =>
      some v13)
set_option maxRecDepth 100000 in
set_option maxHeartbeats 4000000 in
theorem p_X0_followedBy (l : Launch) (E : TE) {b : Nat} (hB_b : IsB b) (x m : XS) (g o : Int64) {a0 : Int32} {r : Int32} (hf : f_X0_followedBy b x a0 = some r) : MG l E yX0_followedBy cX0_followedBy 2 (some .int) 1 [rf E (b + 7), .int a0] (Wd E x m g o) (Wd E x m g o) (some (.int r)) := by
  unfold f_X0_followedBy at hf
  refine m_in (by decide) (Nat.le_of_ble_eq_true rfl) ?_
  intro p e s mi args below meth c H ls hx hb hr hlk hml hown hB hK hW hS hl
  have hl : lv_has ls 2 [(0, rf E (b + 7)), (1, .int a0)] := hl
  refine lv_aload_n hx hb dX0_followedBy_0 rfl (lv_at hl 0 rfl) ?_
  refine lv_iload_n hx hb dX0_followedBy_1 rfl (lv_at hl 1 rfl) ?_
  obtain ⟨v2, e2, hf⟩ := ob2 hf
  refine c_V (As := [.int a0]) (st1 := [.int v2]) (rest := []) (p_X0_has l E hB_b x m g o e2) (kc_X0_47 hB ⟨Nat.le_of_ble_eq_true rfl, Nat.le_of_ble_eq_true rfl⟩) (Wd.rec hK hW (hB_b.l8 (j := 7) (by decide)) (cB_7 hB_b) (ci := 0) rfl) hx hb hml hown hB hK hW hS ⟨Nat.le_refl 0, Nat.le_refl 0⟩ rfl hl.1 rfl (Nat.le_of_ble_eq_true rfl) rfl dX0_followedBy_2 (fun H locs hW hS => ?_)
  refine lv_if_eq (tgt := 17) hx hb dX0_followedBy_5 (by decide) (fun c5 => ?_) (fun c5 => ?_)
  · rw [if_pos c5] at hf
    refine lv_iconst (v := (-1)) hx hb dX0_followedBy_17 (by decide) ?_
    cases hf
    exact e_i hx hb hr hlk hW hS dX0_followedBy_18
  · rw [if_neg c5] at hf
    refine lv_aload_n hx hb dX0_followedBy_8 rfl (lv_at hl 0 rfl) ?_
    refine gf_X0_36 hx hb hB hK hown hW hB_b dX0_followedBy_9 ?_
    refine lv_iload_n hx hb dX0_followedBy_12 rfl (lv_at hl 1 rfl) ?_
    obtain ⟨v13, e13, hf⟩ := ob2 hf
    refine r_iald hx hb hK hW (hB_b.l8 (by decide)) (cB_16 hB_b) e13 dX0_followedBy_13 ?_
    refine lv_goto (tgt := 18) hx hb dX0_followedBy_14 (by decide) ?_
    cases hf
    exact e_i hx hb hr hlk hW hS dX0_followedBy_18
def f_X2_setterOf (b : Nat) (x : XS) (a0 : Int32) : Option (Int32) :=
    (f_X2_has b x a0).bind fun v2 =>
    if (v2 = 0 : Prop) then
      some (-1)
    else
      ((aget 24 (x (b + 20)) a0).bind fun v13 =>
      some v13)
set_option maxRecDepth 100000 in
set_option maxHeartbeats 4000000 in
theorem p_X2_setterOf (l : Launch) (E : TE) {b : Nat} (hB_b : IsB b) (x m : XS) (g o : Int64) {a0 : Int32} {r : Int32} (hf : f_X2_setterOf b x a0 = some r) : MG l E yX2_setterOf cX2_setterOf 2 (some .int) 1 [rf E (b + 17), .int a0] (Wd E x m g o) (Wd E x m g o) (some (.int r)) := by
  unfold f_X2_setterOf at hf
  refine m_in (by decide) (Nat.le_of_ble_eq_true rfl) ?_
  intro p e s mi args below meth c H ls hx hb hr hlk hml hown hB hK hW hS hl
  have hl : lv_has ls 2 [(0, rf E (b + 17)), (1, .int a0)] := hl
  refine lv_aload_n hx hb dX2_setterOf_0 rfl (lv_at hl 0 rfl) ?_
  refine lv_iload_n hx hb dX2_setterOf_1 rfl (lv_at hl 1 rfl) ?_
  obtain ⟨v2, e2, hf⟩ := ob2 hf
  refine c_V (As := [.int a0]) (st1 := [.int v2]) (rest := []) (p_X2_has l E hB_b x m g o e2) (kc_X2_45 hB ⟨Nat.le_of_ble_eq_true rfl, Nat.le_of_ble_eq_true rfl⟩) (Wd.rec hK hW (hB_b.l8 (j := 17) (by decide)) (cB_17 hB_b) (ci := 2) rfl) hx hb hml hown hB hK hW hS ⟨Nat.le_refl 0, Nat.le_refl 0⟩ rfl hl.1 rfl (Nat.le_of_ble_eq_true rfl) rfl dX2_setterOf_2 (fun H locs hW hS => ?_)
  refine lv_if_eq (tgt := 17) hx hb dX2_setterOf_5 (by decide) (fun c5 => ?_) (fun c5 => ?_)
  · rw [if_pos c5] at hf
    refine lv_iconst (v := (-1)) hx hb dX2_setterOf_17 (by decide) ?_
    cases hf
    exact e_i hx hb hr hlk hW hS dX2_setterOf_18
  · rw [if_neg c5] at hf
    refine lv_aload_n hx hb dX2_setterOf_8 rfl (lv_at hl 0 rfl) ?_
    refine gf_X2_18 hx hb hB hK hown hW hB_b dX2_setterOf_9 ?_
    refine lv_iload_n hx hb dX2_setterOf_12 rfl (lv_at hl 1 rfl) ?_
    obtain ⟨v13, e13, hf⟩ := ob2 hf
    refine r_iald hx hb hK hW (hB_b.l8 (by decide)) (cB_20 hB_b) e13 dX2_setterOf_13 ?_
    refine lv_goto (tgt := 18) hx hb dX2_setterOf_14 (by decide) ?_
    cases hf
    exact e_i hx hb hr hlk hW hS dX2_setterOf_18
def f_X0_monthOf (b : Nat) (x : XS) (a0 : Int32) : Option (Int32) :=
    (f_X0_has b x a0).bind fun v2 =>
    if (v2 = 0 : Prop) then
      some (-1)
    else
      ((aget 24 (x (b + 15)) a0).bind fun v13 =>
      some v13)
set_option maxRecDepth 100000 in
set_option maxHeartbeats 4000000 in
theorem p_X0_monthOf (l : Launch) (E : TE) {b : Nat} (hB_b : IsB b) (x m : XS) (g o : Int64) {a0 : Int32} {r : Int32} (hf : f_X0_monthOf b x a0 = some r) : MG l E yX0_monthOf cX0_monthOf 2 (some .int) 1 [rf E (b + 7), .int a0] (Wd E x m g o) (Wd E x m g o) (some (.int r)) := by
  unfold f_X0_monthOf at hf
  refine m_in (by decide) (Nat.le_of_ble_eq_true rfl) ?_
  intro p e s mi args below meth c H ls hx hb hr hlk hml hown hB hK hW hS hl
  have hl : lv_has ls 2 [(0, rf E (b + 7)), (1, .int a0)] := hl
  refine lv_aload_n hx hb dX0_monthOf_0 rfl (lv_at hl 0 rfl) ?_
  refine lv_iload_n hx hb dX0_monthOf_1 rfl (lv_at hl 1 rfl) ?_
  obtain ⟨v2, e2, hf⟩ := ob2 hf
  refine c_V (As := [.int a0]) (st1 := [.int v2]) (rest := []) (p_X0_has l E hB_b x m g o e2) (kc_X0_47 hB ⟨Nat.le_of_ble_eq_true rfl, Nat.le_of_ble_eq_true rfl⟩) (Wd.rec hK hW (hB_b.l8 (j := 7) (by decide)) (cB_7 hB_b) (ci := 0) rfl) hx hb hml hown hB hK hW hS ⟨Nat.le_refl 0, Nat.le_refl 0⟩ rfl hl.1 rfl (Nat.le_of_ble_eq_true rfl) rfl dX0_monthOf_2 (fun H locs hW hS => ?_)
  refine lv_if_eq (tgt := 17) hx hb dX0_monthOf_5 (by decide) (fun c5 => ?_) (fun c5 => ?_)
  · rw [if_pos c5] at hf
    refine lv_iconst (v := (-1)) hx hb dX0_monthOf_17 (by decide) ?_
    cases hf
    exact e_i hx hb hr hlk hW hS dX0_monthOf_18
  · rw [if_neg c5] at hf
    refine lv_aload_n hx hb dX0_monthOf_8 rfl (lv_at hl 0 rfl) ?_
    refine gf_X0_33 hx hb hB hK hown hW hB_b dX0_monthOf_9 ?_
    refine lv_iload_n hx hb dX0_monthOf_12 rfl (lv_at hl 1 rfl) ?_
    obtain ⟨v13, e13, hf⟩ := ob2 hf
    refine r_iald hx hb hK hW (hB_b.l8 (by decide)) (cB_15 hB_b) e13 dX0_monthOf_13 ?_
    refine lv_goto (tgt := 18) hx hb dX0_monthOf_14 (by decide) ?_
    cases hf
    exact e_i hx hb hr hlk hW hS dX0_monthOf_18
def f_X0_changeStage (b : Nat) (x : XS) (a0 : Int32) (a1 : Int32) : Option (XS) :=
    (f_X0_has b x a0).bind fun v2 =>
    if (v2 = 0 : Prop) then
      some x
    else
      ((aset x (b + 11) 24 a0 a1).bind fun x14 =>
      some x14)
set_option maxRecDepth 100000 in
set_option maxHeartbeats 4000000 in
theorem p_X0_changeStage (l : Launch) (E : TE) {b : Nat} (hB_b : IsB b) (x m : XS) (g o : Int64) {a0 : Int32} {a1 : Int32} {xr : XS} (hf : f_X0_changeStage b x a0 a1 = some xr) : MG l E yX0_changeStage cX0_changeStage 3 none 1 [rf E (b + 7), .int a0, .int a1] (Wd E x m g o) (Wd E xr m g o) none := by
  unfold f_X0_changeStage at hf
  refine m_in (by decide) (Nat.le_of_ble_eq_true rfl) ?_
  intro p e s mi args below meth c H ls hx hb hr hlk hml hown hB hK hW hS hl
  have hl : lv_has ls 3 [(0, rf E (b + 7)), (1, .int a0), (2, .int a1)] := hl
  refine lv_aload_n hx hb dX0_changeStage_0 rfl (lv_at hl 0 rfl) ?_
  refine lv_iload_n hx hb dX0_changeStage_1 rfl (lv_at hl 1 rfl) ?_
  obtain ⟨v2, e2, hf⟩ := ob2 hf
  refine c_V (As := [.int a0]) (st1 := [.int v2]) (rest := []) (p_X0_has l E hB_b x m g o e2) (kc_X0_47 hB ⟨Nat.le_of_ble_eq_true rfl, Nat.le_of_ble_eq_true rfl⟩) (Wd.rec hK hW (hB_b.l8 (j := 7) (by decide)) (cB_7 hB_b) (ci := 0) rfl) hx hb hml hown hB hK hW hS ⟨Nat.le_refl 0, Nat.le_refl 0⟩ rfl hl.1 rfl (Nat.le_of_ble_eq_true rfl) rfl dX0_changeStage_2 (fun H locs hW hS => ?_)
  refine lv_if_eq (tgt := 15) hx hb dX0_changeStage_5 (by decide) (fun c5 => ?_) (fun c5 => ?_)
  · rw [if_pos c5] at hf
    cases hf
    exact e_v hx hb hr hlk hW hS dX0_changeStage_15
  · rw [if_neg c5] at hf
    refine lv_aload_n hx hb dX0_changeStage_8 rfl (lv_at hl 0 rfl) ?_
    refine gf_X0_21 hx hb hB hK hown hW hB_b dX0_changeStage_9 ?_
    refine lv_iload_n hx hb dX0_changeStage_12 rfl (lv_at hl 1 rfl) ?_
    refine lv_iload_n hx hb dX0_changeStage_13 rfl (lv_at hl 2 rfl) ?_
    obtain ⟨x14, e14, hf⟩ := ob2 hf
    refine r_iastX hx hb hK hW hS (hB_b.lt (by decide)) (fun _ => cB_11 hB_b) e14 dX0_changeStage_14 (fun H locs hW hS => ?_)
    cases hf
    exact e_v hx hb hr hlk hW hS dX0_changeStage_15
def f_X0_inStage_24 (b : Nat) (x : XS) (k4 : Int32 → Int32 → Int32 → Option (Int32)) (l1_24 : Int32) (l2_24 : Int32) (l3_24 : Int32) : Option (Int32) :=
    (some (l3_24 + 1)).bind fun v24 =>
    k4 l1_24 l2_24 v24
def f_X0_inStage_4 (b : Nat) (x : XS) : Nat → Int32 → Int32 → Int32 → Option (Int32)
  | 0, _, _, _ => none
  | n4 + 1, l1_4, l2_4, l3_4 =>
    if ((x (b + 7) 0) ≤ l3_4 : Prop) then
      some l2_4
    else
      ((f_X0_stageOf b x l3_4).bind fun v14 =>
      if (v14 = l1_4 : Prop) then
        ((some (l2_4 + 1)).bind fun v21 =>
        f_X0_inStage_24 b x (f_X0_inStage_4 b x n4) l1_4 v21 l3_4)
      else
        f_X0_inStage_24 b x (f_X0_inStage_4 b x n4) l1_4 l2_4 l3_4)
def f_X0_inStage (b : Nat) (x : XS) (a0 : Int32) : Option (Int32) :=
    f_X0_inStage_4 b x 4096 a0 0 0
set_option maxRecDepth 100000 in
set_option maxHeartbeats 4000000 in
theorem p_X0_inStage (l : Launch) (E : TE) {b : Nat} (hB_b : IsB b) (x m : XS) (g o : Int64) {a0 : Int32} {r : Int32} (hf : f_X0_inStage b x a0 = some r) : MG l E yX0_inStage cX0_inStage 4 (some .int) 2 [rf E (b + 7), .int a0] (Wd E x m g o) (Wd E x m g o) (some (.int r)) := by
  unfold f_X0_inStage at hf
  refine m_in (by decide) (Nat.le_of_ble_eq_true rfl) ?_
  intro p e s mi args below meth c H ls hx hb hr hlk hml hown hB hK hW hS hl
  have hl : lv_has ls 4 [(0, rf E (b + 7)), (1, .int a0)] := hl
  have J4 : ∀ (n4 : Nat), ∀ (l1_4 : Int32) (l2_4 : Int32) (l3_4 : Int32) (H : Heap) (locs : List Loc) (ls : Array Slot), f_X0_inStage_4 b x n4 l1_4 l2_4 l3_4 = some r → Wd E x m g o H → va_S (Ah E) s.heap H locs → lv_has ls 4 [(0, rf E (b + 7)), (1, .int l1_4), (2, .int l2_4), (3, .int l3_4)] → W p l e (rmH 2) s mi args below meth c H locs 0 0 (EQ E below args s (Wd E x m g o) (some (.int r))) (F0 mi 4 ls []) := by
    intro n4
    induction n4 with
    | zero => intro l1_4 l2_4 l3_4 H locs ls hf; exact absurd hf (fun z => nomatch (show (none : Option (Int32)) = some _ from z))
    | succ n4 ih4 =>
      intro l1_4 l2_4 l3_4 H locs ls hf hW hS hl
      rw [f_X0_inStage_4.eq_2] at hf
      have J24 : ∀ (l1_24 : Int32) (l2_24 : Int32) (l3_24 : Int32) (H : Heap) (locs : List Loc) (ls : Array Slot), f_X0_inStage_24 b x (f_X0_inStage_4 b x n4) l1_24 l2_24 l3_24 = some r → Wd E x m g o H → va_S (Ah E) s.heap H locs → lv_has ls 4 [(0, rf E (b + 7)), (1, .int l1_24), (2, .int l2_24), (3, .int l3_24)] → W p l e (rmH 2) s mi args below meth c H locs 0 0 (EQ E below args s (Wd E x m g o) (some (.int r))) (F0 mi 24 ls []) := by
        intro l1_24 l2_24 l3_24 H locs ls hf hW hS hl
        unfold f_X0_inStage_24 at hf
        obtain ⟨v24, e24, hf⟩ := ob hf
        refine lv_iinc (v := v24) (lv' := [(3, .int v24), (0, rf E (b + 7)), (1, .int l1_24), (2, .int l2_24)]) hx hb dX0_inStage_24 hl (k := 3) rfl (by rw [e24]; rfl) (by decide) rfl (fun ls hl => ?_)
        refine lv_goto (tgt := 4) hx hb dX0_inStage_27 (by decide) ?_
        exact ih4 l1_24 l2_24 v24 _ _ _ hf hW hS (lv_sub hl [1, 2, 3, 0] rfl)
      refine lv_iload_n hx hb dX0_inStage_4 rfl (lv_at hl 3 rfl) ?_
      refine lv_aload_n hx hb dX0_inStage_5 rfl (lv_at hl 0 rfl) ?_
      refine gf_X0_39 hx hb hB hK hown hW hB_b dX0_inStage_6 ?_
      refine lv_icmp_ge (tgt := 30) hx hb dX0_inStage_9 (by decide) (fun c9 => ?_) (fun c9 => ?_)
      · rw [if_pos c9] at hf
        refine lv_iload_n hx hb dX0_inStage_30 rfl (lv_at hl 2 rfl) ?_
        cases hf
        exact e_i hx hb hr hlk hW hS dX0_inStage_31
      · rw [if_neg c9] at hf
        refine lv_aload_n hx hb dX0_inStage_12 rfl (lv_at hl 0 rfl) ?_
        refine lv_iload_n hx hb dX0_inStage_13 rfl (lv_at hl 3 rfl) ?_
        obtain ⟨v14, e14, hf⟩ := ob2 hf
        refine c_V (As := [.int l3_4]) (st1 := [.int v14]) (rest := []) (p_X0_stageOf l E hB_b x m g o e14) (kc_X0_51 hB ⟨Nat.le_of_ble_eq_true rfl, Nat.le_of_ble_eq_true rfl⟩) (Wd.rec hK hW (hB_b.l8 (j := 7) (by decide)) (cB_7 hB_b) (ci := 0) rfl) hx hb hml hown hB hK hW hS ⟨Nat.le_refl 0, Nat.le_refl 0⟩ rfl hl.1 rfl (Nat.le_of_ble_eq_true rfl) rfl dX0_inStage_14 (fun H locs hW hS => ?_)
        refine lv_iload_n hx hb dX0_inStage_17 rfl (lv_at hl 1 rfl) ?_
        refine lv_icmp_ne (tgt := 24) hx hb dX0_inStage_18 (by decide) (fun c18 => ?_) (fun c18 => ?_)
        · rw [if_neg c18] at hf
          exact J24 l1_4 l2_4 l3_4 _ _ _ hf hW hS (lv_sub hl [0, 1, 2, 3] rfl)
        · rw [if_pos c18] at hf
          obtain ⟨v21, e21, hf⟩ := ob hf
          refine lv_iinc (v := v21) (lv' := [(2, .int v21), (0, rf E (b + 7)), (1, .int l1_4), (3, .int l3_4)]) hx hb dX0_inStage_21 hl (k := 2) rfl (by rw [e21]; rfl) (by decide) rfl (fun ls hl => ?_)
          exact J24 l1_4 v21 l3_4 _ _ _ hf hW hS (lv_sub hl [1, 2, 0, 3] rfl)
  refine lv_iconst (v := 0) hx hb dX0_inStage_0 (by decide) ?_
  refine lv_istore_n (lv' := [(2, .int 0), (0, rf E (b + 7)), (1, .int a0)]) hx hb dX0_inStage_1 rfl hl (by decide) rfl (fun ls hl => ?_)
  refine lv_iconst (v := 0) hx hb dX0_inStage_2 (by decide) ?_
  refine lv_istore_n (lv' := [(3, .int 0), (2, .int 0), (0, rf E (b + 7)), (1, .int a0)]) hx hb dX0_inStage_3 rfl hl (by decide) rfl (fun ls hl => ?_)
  exact J4 4096 a0 0 0 _ _ _ hf hW hS (lv_sub hl [2, 3, 1, 0] rfl)
def f_X2_raise (b : Nat) (x : XS) (a0 : Int32) (a1 : Int32) : Option (XS) :=
    (f_X2_has b x a0).bind fun v2 =>
    if (v2 = 0 : Prop) then
      some x
    else
      ((aset x (b + 18) 24 a0 a1).bind fun x14 =>
      some x14)
set_option maxRecDepth 100000 in
set_option maxHeartbeats 4000000 in
theorem p_X2_raise (l : Launch) (E : TE) {b : Nat} (hB_b : IsB b) (x m : XS) (g o : Int64) {a0 : Int32} {a1 : Int32} {xr : XS} (hf : f_X2_raise b x a0 a1 = some xr) : MG l E yX2_raise cX2_raise 3 none 1 [rf E (b + 17), .int a0, .int a1] (Wd E x m g o) (Wd E xr m g o) none := by
  unfold f_X2_raise at hf
  refine m_in (by decide) (Nat.le_of_ble_eq_true rfl) ?_
  intro p e s mi args below meth c H ls hx hb hr hlk hml hown hB hK hW hS hl
  have hl : lv_has ls 3 [(0, rf E (b + 17)), (1, .int a0), (2, .int a1)] := hl
  refine lv_aload_n hx hb dX2_raise_0 rfl (lv_at hl 0 rfl) ?_
  refine lv_iload_n hx hb dX2_raise_1 rfl (lv_at hl 1 rfl) ?_
  obtain ⟨v2, e2, hf⟩ := ob2 hf
  refine c_V (As := [.int a0]) (st1 := [.int v2]) (rest := []) (p_X2_has l E hB_b x m g o e2) (kc_X2_45 hB ⟨Nat.le_of_ble_eq_true rfl, Nat.le_of_ble_eq_true rfl⟩) (Wd.rec hK hW (hB_b.l8 (j := 17) (by decide)) (cB_17 hB_b) (ci := 2) rfl) hx hb hml hown hB hK hW hS ⟨Nat.le_refl 0, Nat.le_refl 0⟩ rfl hl.1 rfl (Nat.le_of_ble_eq_true rfl) rfl dX2_raise_2 (fun H locs hW hS => ?_)
  refine lv_if_eq (tgt := 15) hx hb dX2_raise_5 (by decide) (fun c5 => ?_) (fun c5 => ?_)
  · rw [if_pos c5] at hf
    cases hf
    exact e_v hx hb hr hlk hW hS dX2_raise_15
  · rw [if_neg c5] at hf
    refine lv_aload_n hx hb dX2_raise_8 rfl (lv_at hl 0 rfl) ?_
    refine gf_X2_9 hx hb hB hK hown hW hB_b dX2_raise_9 ?_
    refine lv_iload_n hx hb dX2_raise_12 rfl (lv_at hl 1 rfl) ?_
    refine lv_iload_n hx hb dX2_raise_13 rfl (lv_at hl 2 rfl) ?_
    obtain ⟨x14, e14, hf⟩ := ob2 hf
    refine r_iastX hx hb hK hW hS (hB_b.lt (by decide)) (fun _ => cB_18 hB_b) e14 dX2_raise_14 (fun H locs hW hS => ?_)
    cases hf
    exact e_v hx hb hr hlk hW hS dX2_raise_15
def f_X0_customerOf (b : Nat) (x : XS) (a0 : Int32) : Option (Int32) :=
    (f_X0_has b x a0).bind fun v2 =>
    if (v2 = 0 : Prop) then
      some (-1)
    else
      ((aget 24 (x (b + 10)) a0).bind fun v13 =>
      some v13)
set_option maxRecDepth 100000 in
set_option maxHeartbeats 4000000 in
theorem p_X0_customerOf (l : Launch) (E : TE) {b : Nat} (hB_b : IsB b) (x m : XS) (g o : Int64) {a0 : Int32} {r : Int32} (hf : f_X0_customerOf b x a0 = some r) : MG l E yX0_customerOf cX0_customerOf 2 (some .int) 1 [rf E (b + 7), .int a0] (Wd E x m g o) (Wd E x m g o) (some (.int r)) := by
  unfold f_X0_customerOf at hf
  refine m_in (by decide) (Nat.le_of_ble_eq_true rfl) ?_
  intro p e s mi args below meth c H ls hx hb hr hlk hml hown hB hK hW hS hl
  have hl : lv_has ls 2 [(0, rf E (b + 7)), (1, .int a0)] := hl
  refine lv_aload_n hx hb dX0_customerOf_0 rfl (lv_at hl 0 rfl) ?_
  refine lv_iload_n hx hb dX0_customerOf_1 rfl (lv_at hl 1 rfl) ?_
  obtain ⟨v2, e2, hf⟩ := ob2 hf
  refine c_V (As := [.int a0]) (st1 := [.int v2]) (rest := []) (p_X0_has l E hB_b x m g o e2) (kc_X0_47 hB ⟨Nat.le_of_ble_eq_true rfl, Nat.le_of_ble_eq_true rfl⟩) (Wd.rec hK hW (hB_b.l8 (j := 7) (by decide)) (cB_7 hB_b) (ci := 0) rfl) hx hb hml hown hB hK hW hS ⟨Nat.le_refl 0, Nat.le_refl 0⟩ rfl hl.1 rfl (Nat.le_of_ble_eq_true rfl) rfl dX0_customerOf_2 (fun H locs hW hS => ?_)
  refine lv_if_eq (tgt := 17) hx hb dX0_customerOf_5 (by decide) (fun c5 => ?_) (fun c5 => ?_)
  · rw [if_pos c5] at hf
    refine lv_iconst (v := (-1)) hx hb dX0_customerOf_17 (by decide) ?_
    cases hf
    exact e_i hx hb hr hlk hW hS dX0_customerOf_18
  · rw [if_neg c5] at hf
    refine lv_aload_n hx hb dX0_customerOf_8 rfl (lv_at hl 0 rfl) ?_
    refine gf_X0_18 hx hb hB hK hown hW hB_b dX0_customerOf_9 ?_
    refine lv_iload_n hx hb dX0_customerOf_12 rfl (lv_at hl 1 rfl) ?_
    obtain ⟨v13, e13, hf⟩ := ob2 hf
    refine r_iald hx hb hK hW (hB_b.l8 (by decide)) (cB_10 hB_b) e13 dX0_customerOf_13 ?_
    refine lv_goto (tgt := 18) hx hb dX0_customerOf_14 (by decide) ?_
    cases hf
    exact e_i hx hb hr hlk hW hS dX0_customerOf_18
def f_X0_amendsOf (b : Nat) (x : XS) (a0 : Int32) : Option (Int32) :=
    (f_X0_has b x a0).bind fun v2 =>
    if (v2 = 0 : Prop) then
      some (-1)
    else
      ((aget 24 (x (b + 12)) a0).bind fun v13 =>
      some v13)
set_option maxRecDepth 100000 in
set_option maxHeartbeats 4000000 in
theorem p_X0_amendsOf (l : Launch) (E : TE) {b : Nat} (hB_b : IsB b) (x m : XS) (g o : Int64) {a0 : Int32} {r : Int32} (hf : f_X0_amendsOf b x a0 = some r) : MG l E yX0_amendsOf cX0_amendsOf 2 (some .int) 1 [rf E (b + 7), .int a0] (Wd E x m g o) (Wd E x m g o) (some (.int r)) := by
  unfold f_X0_amendsOf at hf
  refine m_in (by decide) (Nat.le_of_ble_eq_true rfl) ?_
  intro p e s mi args below meth c H ls hx hb hr hlk hml hown hB hK hW hS hl
  have hl : lv_has ls 2 [(0, rf E (b + 7)), (1, .int a0)] := hl
  refine lv_aload_n hx hb dX0_amendsOf_0 rfl (lv_at hl 0 rfl) ?_
  refine lv_iload_n hx hb dX0_amendsOf_1 rfl (lv_at hl 1 rfl) ?_
  obtain ⟨v2, e2, hf⟩ := ob2 hf
  refine c_V (As := [.int a0]) (st1 := [.int v2]) (rest := []) (p_X0_has l E hB_b x m g o e2) (kc_X0_47 hB ⟨Nat.le_of_ble_eq_true rfl, Nat.le_of_ble_eq_true rfl⟩) (Wd.rec hK hW (hB_b.l8 (j := 7) (by decide)) (cB_7 hB_b) (ci := 0) rfl) hx hb hml hown hB hK hW hS ⟨Nat.le_refl 0, Nat.le_refl 0⟩ rfl hl.1 rfl (Nat.le_of_ble_eq_true rfl) rfl dX0_amendsOf_2 (fun H locs hW hS => ?_)
  refine lv_if_eq (tgt := 17) hx hb dX0_amendsOf_5 (by decide) (fun c5 => ?_) (fun c5 => ?_)
  · rw [if_pos c5] at hf
    refine lv_iconst (v := (-1)) hx hb dX0_amendsOf_17 (by decide) ?_
    cases hf
    exact e_i hx hb hr hlk hW hS dX0_amendsOf_18
  · rw [if_neg c5] at hf
    refine lv_aload_n hx hb dX0_amendsOf_8 rfl (lv_at hl 0 rfl) ?_
    refine gf_X0_24 hx hb hB hK hown hW hB_b dX0_amendsOf_9 ?_
    refine lv_iload_n hx hb dX0_amendsOf_12 rfl (lv_at hl 1 rfl) ?_
    obtain ⟨v13, e13, hf⟩ := ob2 hf
    refine r_iald hx hb hK hW (hB_b.l8 (by decide)) (cB_12 hB_b) e13 dX0_amendsOf_13 ?_
    refine lv_goto (tgt := 18) hx hb dX0_amendsOf_14 (by decide) ?_
    cases hf
    exact e_i hx hb hr hlk hW hS dX0_amendsOf_18
def f_X0_reasonOf (b : Nat) (x : XS) (a0 : Int32) : Option (Int32) :=
    (f_X0_has b x a0).bind fun v2 =>
    if (v2 = 0 : Prop) then
      some (-1)
    else
      ((aget 24 (x (b + 14)) a0).bind fun v13 =>
      some v13)
set_option maxRecDepth 100000 in
set_option maxHeartbeats 4000000 in
theorem p_X0_reasonOf (l : Launch) (E : TE) {b : Nat} (hB_b : IsB b) (x m : XS) (g o : Int64) {a0 : Int32} {r : Int32} (hf : f_X0_reasonOf b x a0 = some r) : MG l E yX0_reasonOf cX0_reasonOf 2 (some .int) 1 [rf E (b + 7), .int a0] (Wd E x m g o) (Wd E x m g o) (some (.int r)) := by
  unfold f_X0_reasonOf at hf
  refine m_in (by decide) (Nat.le_of_ble_eq_true rfl) ?_
  intro p e s mi args below meth c H ls hx hb hr hlk hml hown hB hK hW hS hl
  have hl : lv_has ls 2 [(0, rf E (b + 7)), (1, .int a0)] := hl
  refine lv_aload_n hx hb dX0_reasonOf_0 rfl (lv_at hl 0 rfl) ?_
  refine lv_iload_n hx hb dX0_reasonOf_1 rfl (lv_at hl 1 rfl) ?_
  obtain ⟨v2, e2, hf⟩ := ob2 hf
  refine c_V (As := [.int a0]) (st1 := [.int v2]) (rest := []) (p_X0_has l E hB_b x m g o e2) (kc_X0_47 hB ⟨Nat.le_of_ble_eq_true rfl, Nat.le_of_ble_eq_true rfl⟩) (Wd.rec hK hW (hB_b.l8 (j := 7) (by decide)) (cB_7 hB_b) (ci := 0) rfl) hx hb hml hown hB hK hW hS ⟨Nat.le_refl 0, Nat.le_refl 0⟩ rfl hl.1 rfl (Nat.le_of_ble_eq_true rfl) rfl dX0_reasonOf_2 (fun H locs hW hS => ?_)
  refine lv_if_eq (tgt := 17) hx hb dX0_reasonOf_5 (by decide) (fun c5 => ?_) (fun c5 => ?_)
  · rw [if_pos c5] at hf
    refine lv_iconst (v := (-1)) hx hb dX0_reasonOf_17 (by decide) ?_
    cases hf
    exact e_i hx hb hr hlk hW hS dX0_reasonOf_18
  · rw [if_neg c5] at hf
    refine lv_aload_n hx hb dX0_reasonOf_8 rfl (lv_at hl 0 rfl) ?_
    refine gf_X0_30 hx hb hB hK hown hW hB_b dX0_reasonOf_9 ?_
    refine lv_iload_n hx hb dX0_reasonOf_12 rfl (lv_at hl 1 rfl) ?_
    obtain ⟨v13, e13, hf⟩ := ob2 hf
    refine r_iald hx hb hK hW (hB_b.l8 (by decide)) (cB_14 hB_b) e13 dX0_reasonOf_13 ?_
    refine lv_goto (tgt := 18) hx hb dX0_reasonOf_14 (by decide) ?_
    cases hf
    exact e_i hx hb hr hlk hW hS dX0_reasonOf_18
def f_X0_having_37 (b : Nat) (x : XS) (k5 : Int32 → Int32 → Int32 → Int32 → Option (Int32)) (l1_37 : Int32) (l2_37 : Int32) (l3_37 : Int32) (l4_37 : Int32) : Option (Int32) :=
    (some (l4_37 + 1)).bind fun v37 =>
    k5 l1_37 l2_37 l3_37 v37
def f_X0_having_5 (b : Nat) (x : XS) : Nat → Int32 → Int32 → Int32 → Int32 → Option (Int32)
  | 0, _, _, _, _ => none
  | n5 + 1, l1_5, l2_5, l3_5, l4_5 =>
    if ((x (b + 7) 0) ≤ l4_5 : Prop) then
      some l3_5
    else
      ((f_X0_kindOf b x l4_5).bind fun v17 =>
      if (v17 = l1_5 : Prop) then
        ((f_X0_amendsOf b x l4_5).bind fun v27 =>
        if (v27 = l2_5 : Prop) then
          ((some (l3_5 + 1)).bind fun v34 =>
          f_X0_having_37 b x (f_X0_having_5 b x n5) l1_5 l2_5 v34 l4_5)
        else
          f_X0_having_37 b x (f_X0_having_5 b x n5) l1_5 l2_5 l3_5 l4_5)
      else
        f_X0_having_37 b x (f_X0_having_5 b x n5) l1_5 l2_5 l3_5 l4_5)
def f_X0_having (b : Nat) (x : XS) (a0 : Int32) (a1 : Int32) : Option (Int32) :=
    f_X0_having_5 b x 4096 a0 a1 0 0
set_option maxRecDepth 100000 in
set_option maxHeartbeats 4000000 in
theorem p_X0_having (l : Launch) (E : TE) {b : Nat} (hB_b : IsB b) (x m : XS) (g o : Int64) {a0 : Int32} {a1 : Int32} {r : Int32} (hf : f_X0_having b x a0 a1 = some r) : MG l E yX0_having cX0_having 5 (some .int) 2 [rf E (b + 7), .int a0, .int a1] (Wd E x m g o) (Wd E x m g o) (some (.int r)) := by
  unfold f_X0_having at hf
  refine m_in (by decide) (Nat.le_of_ble_eq_true rfl) ?_
  intro p e s mi args below meth c H ls hx hb hr hlk hml hown hB hK hW hS hl
  have hl : lv_has ls 5 [(0, rf E (b + 7)), (1, .int a0), (2, .int a1)] := hl
  have J5 : ∀ (n5 : Nat), ∀ (l1_5 : Int32) (l2_5 : Int32) (l3_5 : Int32) (l4_5 : Int32) (H : Heap) (locs : List Loc) (ls : Array Slot), f_X0_having_5 b x n5 l1_5 l2_5 l3_5 l4_5 = some r → Wd E x m g o H → va_S (Ah E) s.heap H locs → lv_has ls 5 [(0, rf E (b + 7)), (1, .int l1_5), (2, .int l2_5), (3, .int l3_5), (4, .int l4_5)] → W p l e (rmH 2) s mi args below meth c H locs 0 0 (EQ E below args s (Wd E x m g o) (some (.int r))) (F0 mi 5 ls []) := by
    intro n5
    induction n5 with
    | zero => intro l1_5 l2_5 l3_5 l4_5 H locs ls hf; exact absurd hf (fun z => nomatch (show (none : Option (Int32)) = some _ from z))
    | succ n5 ih5 =>
      intro l1_5 l2_5 l3_5 l4_5 H locs ls hf hW hS hl
      rw [f_X0_having_5.eq_2] at hf
      have J37 : ∀ (l1_37 : Int32) (l2_37 : Int32) (l3_37 : Int32) (l4_37 : Int32) (H : Heap) (locs : List Loc) (ls : Array Slot), f_X0_having_37 b x (f_X0_having_5 b x n5) l1_37 l2_37 l3_37 l4_37 = some r → Wd E x m g o H → va_S (Ah E) s.heap H locs → lv_has ls 5 [(0, rf E (b + 7)), (1, .int l1_37), (2, .int l2_37), (3, .int l3_37), (4, .int l4_37)] → W p l e (rmH 2) s mi args below meth c H locs 0 0 (EQ E below args s (Wd E x m g o) (some (.int r))) (F0 mi 37 ls []) := by
        intro l1_37 l2_37 l3_37 l4_37 H locs ls hf hW hS hl
        unfold f_X0_having_37 at hf
        obtain ⟨v37, e37, hf⟩ := ob hf
        refine lv_iinc (v := v37) (lv' := [(4, .int v37), (0, rf E (b + 7)), (1, .int l1_37), (2, .int l2_37), (3, .int l3_37)]) hx hb dX0_having_37 hl (k := 4) rfl (by rw [e37]; rfl) (by decide) rfl (fun ls hl => ?_)
        refine lv_goto (tgt := 5) hx hb dX0_having_40 (by decide) ?_
        exact ih5 l1_37 l2_37 l3_37 v37 _ _ _ hf hW hS (lv_sub hl [1, 2, 3, 4, 0] rfl)
      refine lv_iload hx hb dX0_having_5 (lv_at hl 4 rfl) ?_
      refine lv_aload_n hx hb dX0_having_7 rfl (lv_at hl 0 rfl) ?_
      refine gf_X0_39 hx hb hB hK hown hW hB_b dX0_having_8 ?_
      refine lv_icmp_ge (tgt := 43) hx hb dX0_having_11 (by decide) (fun c11 => ?_) (fun c11 => ?_)
      · rw [if_pos c11] at hf
        refine lv_iload_n hx hb dX0_having_43 rfl (lv_at hl 3 rfl) ?_
        cases hf
        exact e_i hx hb hr hlk hW hS dX0_having_44
      · rw [if_neg c11] at hf
        refine lv_aload_n hx hb dX0_having_14 rfl (lv_at hl 0 rfl) ?_
        refine lv_iload hx hb dX0_having_15 (lv_at hl 4 rfl) ?_
        obtain ⟨v17, e17, hf⟩ := ob2 hf
        refine c_V (As := [.int l4_5]) (st1 := [.int v17]) (rest := []) (p_X0_kindOf l E hB_b x m g o e17) (kc_X0_55 hB ⟨Nat.le_of_ble_eq_true rfl, Nat.le_of_ble_eq_true rfl⟩) (Wd.rec hK hW (hB_b.l8 (j := 7) (by decide)) (cB_7 hB_b) (ci := 0) rfl) hx hb hml hown hB hK hW hS ⟨Nat.le_refl 0, Nat.le_refl 0⟩ rfl hl.1 rfl (Nat.le_of_ble_eq_true rfl) rfl dX0_having_17 (fun H locs hW hS => ?_)
        refine lv_iload_n hx hb dX0_having_20 rfl (lv_at hl 1 rfl) ?_
        refine lv_icmp_ne (tgt := 37) hx hb dX0_having_21 (by decide) (fun c21 => ?_) (fun c21 => ?_)
        · rw [if_neg c21] at hf
          exact J37 l1_5 l2_5 l3_5 l4_5 _ _ _ hf hW hS (lv_sub hl [0, 1, 2, 3, 4] rfl)
        · rw [if_pos c21] at hf
          refine lv_aload_n hx hb dX0_having_24 rfl (lv_at hl 0 rfl) ?_
          refine lv_iload hx hb dX0_having_25 (lv_at hl 4 rfl) ?_
          obtain ⟨v27, e27, hf⟩ := ob2 hf
          refine c_V (As := [.int l4_5]) (st1 := [.int v27]) (rest := []) (p_X0_amendsOf l E hB_b x m g o e27) (kc_X0_58 hB ⟨Nat.le_of_ble_eq_true rfl, Nat.le_of_ble_eq_true rfl⟩) (Wd.rec hK hW (hB_b.l8 (j := 7) (by decide)) (cB_7 hB_b) (ci := 0) rfl) hx hb hml hown hB hK hW hS ⟨Nat.le_refl 0, Nat.le_refl 0⟩ rfl hl.1 rfl (Nat.le_of_ble_eq_true rfl) rfl dX0_having_27 (fun H locs hW hS => ?_)
          refine lv_iload_n hx hb dX0_having_30 rfl (lv_at hl 2 rfl) ?_
          refine lv_icmp_ne (tgt := 37) hx hb dX0_having_31 (by decide) (fun c31 => ?_) (fun c31 => ?_)
          · rw [if_neg c31] at hf
            exact J37 l1_5 l2_5 l3_5 l4_5 _ _ _ hf hW hS (lv_sub hl [0, 1, 2, 3, 4] rfl)
          · rw [if_pos c31] at hf
            obtain ⟨v34, e34, hf⟩ := ob hf
            refine lv_iinc (v := v34) (lv' := [(3, .int v34), (0, rf E (b + 7)), (1, .int l1_5), (2, .int l2_5), (4, .int l4_5)]) hx hb dX0_having_34 hl (k := 3) rfl (by rw [e34]; rfl) (by decide) rfl (fun ls hl => ?_)
            exact J37 l1_5 l2_5 v34 l4_5 _ _ _ hf hW hS (lv_sub hl [1, 2, 3, 0, 4] rfl)
  refine lv_iconst (v := 0) hx hb dX0_having_0 (by decide) ?_
  refine lv_istore_n (lv' := [(3, .int 0), (0, rf E (b + 7)), (1, .int a0), (2, .int a1)]) hx hb dX0_having_1 rfl hl (by decide) rfl (fun ls hl => ?_)
  refine lv_iconst (v := 0) hx hb dX0_having_2 (by decide) ?_
  refine lv_istore (lv' := [(4, .int 0), (3, .int 0), (0, rf E (b + 7)), (1, .int a0), (2, .int a1)]) hx hb dX0_having_3 hl (by decide) rfl (fun ls hl => ?_)
  exact J5 4096 a0 a1 0 0 _ _ _ hf hW hS (lv_sub hl [2, 3, 4, 1, 0] rfl)
def f_X0_following_24 (b : Nat) (x : XS) (k4 : Int32 → Int32 → Int32 → Option (Int32)) (l1_24 : Int32) (l2_24 : Int32) (l3_24 : Int32) : Option (Int32) :=
    (some (l3_24 + 1)).bind fun v24 =>
    k4 l1_24 l2_24 v24
def f_X0_following_4 (b : Nat) (x : XS) : Nat → Int32 → Int32 → Int32 → Option (Int32)
  | 0, _, _, _ => none
  | n4 + 1, l1_4, l2_4, l3_4 =>
    if ((x (b + 7) 0) ≤ l3_4 : Prop) then
      some l2_4
    else
      ((f_X0_followedBy b x l3_4).bind fun v14 =>
      if (v14 = l1_4 : Prop) then
        ((some (l2_4 + 1)).bind fun v21 =>
        f_X0_following_24 b x (f_X0_following_4 b x n4) l1_4 v21 l3_4)
      else
        f_X0_following_24 b x (f_X0_following_4 b x n4) l1_4 l2_4 l3_4)
def f_X0_following (b : Nat) (x : XS) (a0 : Int32) : Option (Int32) :=
    f_X0_following_4 b x 4096 a0 0 0
set_option maxRecDepth 100000 in
set_option maxHeartbeats 4000000 in
theorem p_X0_following (l : Launch) (E : TE) {b : Nat} (hB_b : IsB b) (x m : XS) (g o : Int64) {a0 : Int32} {r : Int32} (hf : f_X0_following b x a0 = some r) : MG l E yX0_following cX0_following 4 (some .int) 2 [rf E (b + 7), .int a0] (Wd E x m g o) (Wd E x m g o) (some (.int r)) := by
  unfold f_X0_following at hf
  refine m_in (by decide) (Nat.le_of_ble_eq_true rfl) ?_
  intro p e s mi args below meth c H ls hx hb hr hlk hml hown hB hK hW hS hl
  have hl : lv_has ls 4 [(0, rf E (b + 7)), (1, .int a0)] := hl
  have J4 : ∀ (n4 : Nat), ∀ (l1_4 : Int32) (l2_4 : Int32) (l3_4 : Int32) (H : Heap) (locs : List Loc) (ls : Array Slot), f_X0_following_4 b x n4 l1_4 l2_4 l3_4 = some r → Wd E x m g o H → va_S (Ah E) s.heap H locs → lv_has ls 4 [(0, rf E (b + 7)), (1, .int l1_4), (2, .int l2_4), (3, .int l3_4)] → W p l e (rmH 2) s mi args below meth c H locs 0 0 (EQ E below args s (Wd E x m g o) (some (.int r))) (F0 mi 4 ls []) := by
    intro n4
    induction n4 with
    | zero => intro l1_4 l2_4 l3_4 H locs ls hf; exact absurd hf (fun z => nomatch (show (none : Option (Int32)) = some _ from z))
    | succ n4 ih4 =>
      intro l1_4 l2_4 l3_4 H locs ls hf hW hS hl
      rw [f_X0_following_4.eq_2] at hf
      have J24 : ∀ (l1_24 : Int32) (l2_24 : Int32) (l3_24 : Int32) (H : Heap) (locs : List Loc) (ls : Array Slot), f_X0_following_24 b x (f_X0_following_4 b x n4) l1_24 l2_24 l3_24 = some r → Wd E x m g o H → va_S (Ah E) s.heap H locs → lv_has ls 4 [(0, rf E (b + 7)), (1, .int l1_24), (2, .int l2_24), (3, .int l3_24)] → W p l e (rmH 2) s mi args below meth c H locs 0 0 (EQ E below args s (Wd E x m g o) (some (.int r))) (F0 mi 24 ls []) := by
        intro l1_24 l2_24 l3_24 H locs ls hf hW hS hl
        unfold f_X0_following_24 at hf
        obtain ⟨v24, e24, hf⟩ := ob hf
        refine lv_iinc (v := v24) (lv' := [(3, .int v24), (0, rf E (b + 7)), (1, .int l1_24), (2, .int l2_24)]) hx hb dX0_following_24 hl (k := 3) rfl (by rw [e24]; rfl) (by decide) rfl (fun ls hl => ?_)
        refine lv_goto (tgt := 4) hx hb dX0_following_27 (by decide) ?_
        exact ih4 l1_24 l2_24 v24 _ _ _ hf hW hS (lv_sub hl [1, 2, 3, 0] rfl)
      refine lv_iload_n hx hb dX0_following_4 rfl (lv_at hl 3 rfl) ?_
      refine lv_aload_n hx hb dX0_following_5 rfl (lv_at hl 0 rfl) ?_
      refine gf_X0_39 hx hb hB hK hown hW hB_b dX0_following_6 ?_
      refine lv_icmp_ge (tgt := 30) hx hb dX0_following_9 (by decide) (fun c9 => ?_) (fun c9 => ?_)
      · rw [if_pos c9] at hf
        refine lv_iload_n hx hb dX0_following_30 rfl (lv_at hl 2 rfl) ?_
        cases hf
        exact e_i hx hb hr hlk hW hS dX0_following_31
      · rw [if_neg c9] at hf
        refine lv_aload_n hx hb dX0_following_12 rfl (lv_at hl 0 rfl) ?_
        refine lv_iload_n hx hb dX0_following_13 rfl (lv_at hl 3 rfl) ?_
        obtain ⟨v14, e14, hf⟩ := ob2 hf
        refine c_V (As := [.int l3_4]) (st1 := [.int v14]) (rest := []) (p_X0_followedBy l E hB_b x m g o e14) (kc_X0_61 hB ⟨Nat.le_of_ble_eq_true rfl, Nat.le_of_ble_eq_true rfl⟩) (Wd.rec hK hW (hB_b.l8 (j := 7) (by decide)) (cB_7 hB_b) (ci := 0) rfl) hx hb hml hown hB hK hW hS ⟨Nat.le_refl 0, Nat.le_refl 0⟩ rfl hl.1 rfl (Nat.le_of_ble_eq_true rfl) rfl dX0_following_14 (fun H locs hW hS => ?_)
        refine lv_iload_n hx hb dX0_following_17 rfl (lv_at hl 1 rfl) ?_
        refine lv_icmp_ne (tgt := 24) hx hb dX0_following_18 (by decide) (fun c18 => ?_) (fun c18 => ?_)
        · rw [if_neg c18] at hf
          exact J24 l1_4 l2_4 l3_4 _ _ _ hf hW hS (lv_sub hl [0, 1, 2, 3] rfl)
        · rw [if_pos c18] at hf
          obtain ⟨v21, e21, hf⟩ := ob hf
          refine lv_iinc (v := v21) (lv' := [(2, .int v21), (0, rf E (b + 7)), (1, .int l1_4), (3, .int l3_4)]) hx hb dX0_following_21 hl (k := 2) rfl (by rw [e21]; rfl) (by decide) rfl (fun ls hl => ?_)
          exact J24 l1_4 v21 l3_4 _ _ _ hf hW hS (lv_sub hl [1, 2, 0, 3] rfl)
  refine lv_iconst (v := 0) hx hb dX0_following_0 (by decide) ?_
  refine lv_istore_n (lv' := [(2, .int 0), (0, rf E (b + 7)), (1, .int a0)]) hx hb dX0_following_1 rfl hl (by decide) rfl (fun ls hl => ?_)
  refine lv_iconst (v := 0) hx hb dX0_following_2 (by decide) ?_
  refine lv_istore_n (lv' := [(3, .int 0), (2, .int 0), (0, rf E (b + 7)), (1, .int a0)]) hx hb dX0_following_3 rfl hl (by decide) rfl (fun ls hl => ?_)
  exact J4 4096 a0 0 0 _ _ _ hf hW hS (lv_sub hl [2, 3, 1, 0] rfl)
def f_X0_ofKind_24 (b : Nat) (x : XS) (k4 : Int32 → Int32 → Int32 → Option (Int32)) (l1_24 : Int32) (l2_24 : Int32) (l3_24 : Int32) : Option (Int32) :=
    (some (l3_24 + 1)).bind fun v24 =>
    k4 l1_24 l2_24 v24
def f_X0_ofKind_4 (b : Nat) (x : XS) : Nat → Int32 → Int32 → Int32 → Option (Int32)
  | 0, _, _, _ => none
  | n4 + 1, l1_4, l2_4, l3_4 =>
    if ((x (b + 7) 0) ≤ l3_4 : Prop) then
      some l2_4
    else
      ((f_X0_kindOf b x l3_4).bind fun v14 =>
      if (v14 = l1_4 : Prop) then
        ((some (l2_4 + 1)).bind fun v21 =>
        f_X0_ofKind_24 b x (f_X0_ofKind_4 b x n4) l1_4 v21 l3_4)
      else
        f_X0_ofKind_24 b x (f_X0_ofKind_4 b x n4) l1_4 l2_4 l3_4)
def f_X0_ofKind (b : Nat) (x : XS) (a0 : Int32) : Option (Int32) :=
    f_X0_ofKind_4 b x 4096 a0 0 0
set_option maxRecDepth 100000 in
set_option maxHeartbeats 4000000 in
theorem p_X0_ofKind (l : Launch) (E : TE) {b : Nat} (hB_b : IsB b) (x m : XS) (g o : Int64) {a0 : Int32} {r : Int32} (hf : f_X0_ofKind b x a0 = some r) : MG l E yX0_ofKind cX0_ofKind 4 (some .int) 2 [rf E (b + 7), .int a0] (Wd E x m g o) (Wd E x m g o) (some (.int r)) := by
  unfold f_X0_ofKind at hf
  refine m_in (by decide) (Nat.le_of_ble_eq_true rfl) ?_
  intro p e s mi args below meth c H ls hx hb hr hlk hml hown hB hK hW hS hl
  have hl : lv_has ls 4 [(0, rf E (b + 7)), (1, .int a0)] := hl
  have J4 : ∀ (n4 : Nat), ∀ (l1_4 : Int32) (l2_4 : Int32) (l3_4 : Int32) (H : Heap) (locs : List Loc) (ls : Array Slot), f_X0_ofKind_4 b x n4 l1_4 l2_4 l3_4 = some r → Wd E x m g o H → va_S (Ah E) s.heap H locs → lv_has ls 4 [(0, rf E (b + 7)), (1, .int l1_4), (2, .int l2_4), (3, .int l3_4)] → W p l e (rmH 2) s mi args below meth c H locs 0 0 (EQ E below args s (Wd E x m g o) (some (.int r))) (F0 mi 4 ls []) := by
    intro n4
    induction n4 with
    | zero => intro l1_4 l2_4 l3_4 H locs ls hf; exact absurd hf (fun z => nomatch (show (none : Option (Int32)) = some _ from z))
    | succ n4 ih4 =>
      intro l1_4 l2_4 l3_4 H locs ls hf hW hS hl
      rw [f_X0_ofKind_4.eq_2] at hf
      have J24 : ∀ (l1_24 : Int32) (l2_24 : Int32) (l3_24 : Int32) (H : Heap) (locs : List Loc) (ls : Array Slot), f_X0_ofKind_24 b x (f_X0_ofKind_4 b x n4) l1_24 l2_24 l3_24 = some r → Wd E x m g o H → va_S (Ah E) s.heap H locs → lv_has ls 4 [(0, rf E (b + 7)), (1, .int l1_24), (2, .int l2_24), (3, .int l3_24)] → W p l e (rmH 2) s mi args below meth c H locs 0 0 (EQ E below args s (Wd E x m g o) (some (.int r))) (F0 mi 24 ls []) := by
        intro l1_24 l2_24 l3_24 H locs ls hf hW hS hl
        unfold f_X0_ofKind_24 at hf
        obtain ⟨v24, e24, hf⟩ := ob hf
        refine lv_iinc (v := v24) (lv' := [(3, .int v24), (0, rf E (b + 7)), (1, .int l1_24), (2, .int l2_24)]) hx hb dX0_ofKind_24 hl (k := 3) rfl (by rw [e24]; rfl) (by decide) rfl (fun ls hl => ?_)
        refine lv_goto (tgt := 4) hx hb dX0_ofKind_27 (by decide) ?_
        exact ih4 l1_24 l2_24 v24 _ _ _ hf hW hS (lv_sub hl [1, 2, 3, 0] rfl)
      refine lv_iload_n hx hb dX0_ofKind_4 rfl (lv_at hl 3 rfl) ?_
      refine lv_aload_n hx hb dX0_ofKind_5 rfl (lv_at hl 0 rfl) ?_
      refine gf_X0_39 hx hb hB hK hown hW hB_b dX0_ofKind_6 ?_
      refine lv_icmp_ge (tgt := 30) hx hb dX0_ofKind_9 (by decide) (fun c9 => ?_) (fun c9 => ?_)
      · rw [if_pos c9] at hf
        refine lv_iload_n hx hb dX0_ofKind_30 rfl (lv_at hl 2 rfl) ?_
        cases hf
        exact e_i hx hb hr hlk hW hS dX0_ofKind_31
      · rw [if_neg c9] at hf
        refine lv_aload_n hx hb dX0_ofKind_12 rfl (lv_at hl 0 rfl) ?_
        refine lv_iload_n hx hb dX0_ofKind_13 rfl (lv_at hl 3 rfl) ?_
        obtain ⟨v14, e14, hf⟩ := ob2 hf
        refine c_V (As := [.int l3_4]) (st1 := [.int v14]) (rest := []) (p_X0_kindOf l E hB_b x m g o e14) (kc_X0_55 hB ⟨Nat.le_of_ble_eq_true rfl, Nat.le_of_ble_eq_true rfl⟩) (Wd.rec hK hW (hB_b.l8 (j := 7) (by decide)) (cB_7 hB_b) (ci := 0) rfl) hx hb hml hown hB hK hW hS ⟨Nat.le_refl 0, Nat.le_refl 0⟩ rfl hl.1 rfl (Nat.le_of_ble_eq_true rfl) rfl dX0_ofKind_14 (fun H locs hW hS => ?_)
        refine lv_iload_n hx hb dX0_ofKind_17 rfl (lv_at hl 1 rfl) ?_
        refine lv_icmp_ne (tgt := 24) hx hb dX0_ofKind_18 (by decide) (fun c18 => ?_) (fun c18 => ?_)
        · rw [if_neg c18] at hf
          exact J24 l1_4 l2_4 l3_4 _ _ _ hf hW hS (lv_sub hl [0, 1, 2, 3] rfl)
        · rw [if_pos c18] at hf
          obtain ⟨v21, e21, hf⟩ := ob hf
          refine lv_iinc (v := v21) (lv' := [(2, .int v21), (0, rf E (b + 7)), (1, .int l1_4), (3, .int l3_4)]) hx hb dX0_ofKind_21 hl (k := 2) rfl (by rw [e21]; rfl) (by decide) rfl (fun ls hl => ?_)
          exact J24 l1_4 v21 l3_4 _ _ _ hf hW hS (lv_sub hl [1, 2, 0, 3] rfl)
  refine lv_iconst (v := 0) hx hb dX0_ofKind_0 (by decide) ?_
  refine lv_istore_n (lv' := [(2, .int 0), (0, rf E (b + 7)), (1, .int a0)]) hx hb dX0_ofKind_1 rfl hl (by decide) rfl (fun ls hl => ?_)
  refine lv_iconst (v := 0) hx hb dX0_ofKind_2 (by decide) ?_
  refine lv_istore_n (lv' := [(3, .int 0), (2, .int 0), (0, rf E (b + 7)), (1, .int a0)]) hx hb dX0_ofKind_3 rfl hl (by decide) rfl (fun ls hl => ?_)
  exact J4 4096 a0 0 0 _ _ _ hf hW hS (lv_sub hl [2, 3, 1, 0] rfl)
def f_X0_gotInKind_29 (b : Nat) (x : XS) (k4 : Int32 → Int32 → Int32 → Option (Int32)) (l1_29 : Int32) (l2_29 : Int32) (l3_29 : Int32) : Option (Int32) :=
    (some (l3_29 + 1)).bind fun v29 =>
    k4 l1_29 l2_29 v29
def f_X0_gotInKind_4 (b : Nat) (x : XS) : Nat → Int32 → Int32 → Int32 → Option (Int32)
  | 0, _, _, _ => none
  | n4 + 1, l1_4, l2_4, l3_4 =>
    if ((x (b + 7) 0) ≤ l3_4 : Prop) then
      some l2_4
    else
      ((f_X0_kindOf b x l3_4).bind fun v14 =>
      if (v14 = l1_4 : Prop) then
        ((f_X0_gotOf b x l3_4).bind fun v24 =>
        (some ((l2_4 + v24))).bind fun v28 =>
        f_X0_gotInKind_29 b x (f_X0_gotInKind_4 b x n4) l1_4 v28 l3_4)
      else
        f_X0_gotInKind_29 b x (f_X0_gotInKind_4 b x n4) l1_4 l2_4 l3_4)
def f_X0_gotInKind (b : Nat) (x : XS) (a0 : Int32) : Option (Int32) :=
    f_X0_gotInKind_4 b x 4096 a0 0 0
set_option maxRecDepth 100000 in
set_option maxHeartbeats 4000000 in
theorem p_X0_gotInKind (l : Launch) (E : TE) {b : Nat} (hB_b : IsB b) (x m : XS) (g o : Int64) {a0 : Int32} {r : Int32} (hf : f_X0_gotInKind b x a0 = some r) : MG l E yX0_gotInKind cX0_gotInKind 4 (some .int) 2 [rf E (b + 7), .int a0] (Wd E x m g o) (Wd E x m g o) (some (.int r)) := by
  unfold f_X0_gotInKind at hf
  refine m_in (by decide) (Nat.le_of_ble_eq_true rfl) ?_
  intro p e s mi args below meth c H ls hx hb hr hlk hml hown hB hK hW hS hl
  have hl : lv_has ls 4 [(0, rf E (b + 7)), (1, .int a0)] := hl
  have J4 : ∀ (n4 : Nat), ∀ (l1_4 : Int32) (l2_4 : Int32) (l3_4 : Int32) (H : Heap) (locs : List Loc) (ls : Array Slot), f_X0_gotInKind_4 b x n4 l1_4 l2_4 l3_4 = some r → Wd E x m g o H → va_S (Ah E) s.heap H locs → lv_has ls 4 [(0, rf E (b + 7)), (1, .int l1_4), (2, .int l2_4), (3, .int l3_4)] → W p l e (rmH 2) s mi args below meth c H locs 0 0 (EQ E below args s (Wd E x m g o) (some (.int r))) (F0 mi 4 ls []) := by
    intro n4
    induction n4 with
    | zero => intro l1_4 l2_4 l3_4 H locs ls hf; exact absurd hf (fun z => nomatch (show (none : Option (Int32)) = some _ from z))
    | succ n4 ih4 =>
      intro l1_4 l2_4 l3_4 H locs ls hf hW hS hl
      rw [f_X0_gotInKind_4.eq_2] at hf
      have J29 : ∀ (l1_29 : Int32) (l2_29 : Int32) (l3_29 : Int32) (H : Heap) (locs : List Loc) (ls : Array Slot), f_X0_gotInKind_29 b x (f_X0_gotInKind_4 b x n4) l1_29 l2_29 l3_29 = some r → Wd E x m g o H → va_S (Ah E) s.heap H locs → lv_has ls 4 [(0, rf E (b + 7)), (1, .int l1_29), (2, .int l2_29), (3, .int l3_29)] → W p l e (rmH 2) s mi args below meth c H locs 0 0 (EQ E below args s (Wd E x m g o) (some (.int r))) (F0 mi 29 ls []) := by
        intro l1_29 l2_29 l3_29 H locs ls hf hW hS hl
        unfold f_X0_gotInKind_29 at hf
        obtain ⟨v29, e29, hf⟩ := ob hf
        refine lv_iinc (v := v29) (lv' := [(3, .int v29), (0, rf E (b + 7)), (1, .int l1_29), (2, .int l2_29)]) hx hb dX0_gotInKind_29 hl (k := 3) rfl (by rw [e29]; rfl) (by decide) rfl (fun ls hl => ?_)
        refine lv_goto (tgt := 4) hx hb dX0_gotInKind_32 (by decide) ?_
        exact ih4 l1_29 l2_29 v29 _ _ _ hf hW hS (lv_sub hl [1, 2, 3, 0] rfl)
      refine lv_iload_n hx hb dX0_gotInKind_4 rfl (lv_at hl 3 rfl) ?_
      refine lv_aload_n hx hb dX0_gotInKind_5 rfl (lv_at hl 0 rfl) ?_
      refine gf_X0_39 hx hb hB hK hown hW hB_b dX0_gotInKind_6 ?_
      refine lv_icmp_ge (tgt := 35) hx hb dX0_gotInKind_9 (by decide) (fun c9 => ?_) (fun c9 => ?_)
      · rw [if_pos c9] at hf
        refine lv_iload_n hx hb dX0_gotInKind_35 rfl (lv_at hl 2 rfl) ?_
        cases hf
        exact e_i hx hb hr hlk hW hS dX0_gotInKind_36
      · rw [if_neg c9] at hf
        refine lv_aload_n hx hb dX0_gotInKind_12 rfl (lv_at hl 0 rfl) ?_
        refine lv_iload_n hx hb dX0_gotInKind_13 rfl (lv_at hl 3 rfl) ?_
        obtain ⟨v14, e14, hf⟩ := ob2 hf
        refine c_V (As := [.int l3_4]) (st1 := [.int v14]) (rest := []) (p_X0_kindOf l E hB_b x m g o e14) (kc_X0_55 hB ⟨Nat.le_of_ble_eq_true rfl, Nat.le_of_ble_eq_true rfl⟩) (Wd.rec hK hW (hB_b.l8 (j := 7) (by decide)) (cB_7 hB_b) (ci := 0) rfl) hx hb hml hown hB hK hW hS ⟨Nat.le_refl 0, Nat.le_refl 0⟩ rfl hl.1 rfl (Nat.le_of_ble_eq_true rfl) rfl dX0_gotInKind_14 (fun H locs hW hS => ?_)
        refine lv_iload_n hx hb dX0_gotInKind_17 rfl (lv_at hl 1 rfl) ?_
        refine lv_icmp_ne (tgt := 29) hx hb dX0_gotInKind_18 (by decide) (fun c18 => ?_) (fun c18 => ?_)
        · rw [if_neg c18] at hf
          exact J29 l1_4 l2_4 l3_4 _ _ _ hf hW hS (lv_sub hl [0, 1, 2, 3] rfl)
        · rw [if_pos c18] at hf
          refine lv_iload_n hx hb dX0_gotInKind_21 rfl (lv_at hl 2 rfl) ?_
          refine lv_aload_n hx hb dX0_gotInKind_22 rfl (lv_at hl 0 rfl) ?_
          refine lv_iload_n hx hb dX0_gotInKind_23 rfl (lv_at hl 3 rfl) ?_
          obtain ⟨v24, e24, hf⟩ := ob2 hf
          refine c_V (As := [.int l3_4]) (st1 := [.int v24, .int l2_4]) (rest := [.int l2_4]) (p_X0_gotOf l E hB_b x m g o e24) (kc_X0_67 hB ⟨Nat.le_of_ble_eq_true rfl, Nat.le_of_ble_eq_true rfl⟩) (Wd.rec hK hW (hB_b.l8 (j := 7) (by decide)) (cB_7 hB_b) (ci := 0) rfl) hx hb hml hown hB hK hW hS ⟨Nat.le_refl 0, Nat.le_refl 0⟩ rfl hl.1 rfl (Nat.le_of_ble_eq_true rfl) rfl dX0_gotInKind_24 (fun H locs hW hS => ?_)
          refine lv_iadd hx hb dX0_gotInKind_27 ?_
          obtain ⟨v28, e28, hf⟩ := ob hf
          refine lv_nm e28 ?_
          refine lv_istore_n (lv' := [(2, .int v28), (0, rf E (b + 7)), (1, .int l1_4), (3, .int l3_4)]) hx hb dX0_gotInKind_28 rfl hl (by decide) rfl (fun ls hl => ?_)
          exact J29 l1_4 v28 l3_4 _ _ _ hf hW hS (lv_sub hl [1, 2, 0, 3] rfl)
  refine lv_iconst (v := 0) hx hb dX0_gotInKind_0 (by decide) ?_
  refine lv_istore_n (lv' := [(2, .int 0), (0, rf E (b + 7)), (1, .int a0)]) hx hb dX0_gotInKind_1 rfl hl (by decide) rfl (fun ls hl => ?_)
  refine lv_iconst (v := 0) hx hb dX0_gotInKind_2 (by decide) ?_
  refine lv_istore_n (lv' := [(3, .int 0), (2, .int 0), (0, rf E (b + 7)), (1, .int a0)]) hx hb dX0_gotInKind_3 rfl hl (by decide) rfl (fun ls hl => ?_)
  exact J4 4096 a0 0 0 _ _ _ hf hW hS (lv_sub hl [2, 3, 1, 0] rfl)
def f_X0_gotInAll_4 (b : Nat) (x : XS) : Nat → Int32 → Int32 → Option (Int32)
  | 0, _, _ => none
  | n4 + 1, l1_4, l2_4 =>
    if (4 ≤ l2_4 : Prop) then
      some l1_4
    else
      ((f_X0_gotInKind b x l2_4).bind fun v12 =>
      (some ((l1_4 + v12))).bind fun v16 =>
      (some (l2_4 + 1)).bind fun v17 =>
      f_X0_gotInAll_4 b x n4 v16 v17)
def f_X0_gotInAll (b : Nat) (x : XS) : Option (Int32) :=
    f_X0_gotInAll_4 b x 4096 0 0
set_option maxRecDepth 100000 in
set_option maxHeartbeats 4000000 in
theorem p_X0_gotInAll (l : Launch) (E : TE) {b : Nat} (hB_b : IsB b) (x m : XS) (g o : Int64) {r : Int32} (hf : f_X0_gotInAll b x = some r) : MG l E yX0_gotInAll cX0_gotInAll 3 (some .int) 3 [rf E (b + 7)] (Wd E x m g o) (Wd E x m g o) (some (.int r)) := by
  unfold f_X0_gotInAll at hf
  refine m_in (by decide) (Nat.le_of_ble_eq_true rfl) ?_
  intro p e s mi args below meth c H ls hx hb hr hlk hml hown hB hK hW hS hl
  have hl : lv_has ls 3 [(0, rf E (b + 7))] := hl
  have J4 : ∀ (n4 : Nat), ∀ (l1_4 : Int32) (l2_4 : Int32) (H : Heap) (locs : List Loc) (ls : Array Slot), f_X0_gotInAll_4 b x n4 l1_4 l2_4 = some r → Wd E x m g o H → va_S (Ah E) s.heap H locs → lv_has ls 3 [(0, rf E (b + 7)), (1, .int l1_4), (2, .int l2_4)] → W p l e (rmH 3) s mi args below meth c H locs 0 0 (EQ E below args s (Wd E x m g o) (some (.int r))) (F0 mi 4 ls []) := by
    intro n4
    induction n4 with
    | zero => intro l1_4 l2_4 H locs ls hf; exact absurd hf (fun z => nomatch (show (none : Option (Int32)) = some _ from z))
    | succ n4 ih4 =>
      intro l1_4 l2_4 H locs ls hf hW hS hl
      rw [f_X0_gotInAll_4.eq_2] at hf
      refine lv_iload_n hx hb dX0_gotInAll_4 rfl (lv_at hl 2 rfl) ?_
      refine lv_iconst (v := 4) hx hb dX0_gotInAll_5 (by decide) ?_
      refine lv_icmp_ge (tgt := 23) hx hb dX0_gotInAll_6 (by decide) (fun c6 => ?_) (fun c6 => ?_)
      · rw [if_pos c6] at hf
        refine lv_iload_n hx hb dX0_gotInAll_23 rfl (lv_at hl 1 rfl) ?_
        cases hf
        exact e_i hx hb hr hlk hW hS dX0_gotInAll_24
      · rw [if_neg c6] at hf
        refine lv_iload_n hx hb dX0_gotInAll_9 rfl (lv_at hl 1 rfl) ?_
        refine lv_aload_n hx hb dX0_gotInAll_10 rfl (lv_at hl 0 rfl) ?_
        refine lv_iload_n hx hb dX0_gotInAll_11 rfl (lv_at hl 2 rfl) ?_
        obtain ⟨v12, e12, hf⟩ := ob2 hf
        refine c_V (As := [.int l2_4]) (st1 := [.int v12, .int l1_4]) (rest := [.int l1_4]) (p_X0_gotInKind l E hB_b x m g o e12) (kc_X0_70 hB ⟨Nat.le_of_ble_eq_true rfl, Nat.le_of_ble_eq_true rfl⟩) (Wd.rec hK hW (hB_b.l8 (j := 7) (by decide)) (cB_7 hB_b) (ci := 0) rfl) hx hb hml hown hB hK hW hS ⟨Nat.le_refl 0, Nat.le_refl 0⟩ rfl hl.1 rfl (Nat.le_of_ble_eq_true rfl) rfl dX0_gotInAll_12 (fun H locs hW hS => ?_)
        refine lv_iadd hx hb dX0_gotInAll_15 ?_
        obtain ⟨v16, e16, hf⟩ := ob hf
        refine lv_nm e16 ?_
        refine lv_istore_n (lv' := [(1, .int v16), (0, rf E (b + 7)), (2, .int l2_4)]) hx hb dX0_gotInAll_16 rfl hl (by decide) rfl (fun ls hl => ?_)
        obtain ⟨v17, e17, hf⟩ := ob hf
        refine lv_iinc (v := v17) (lv' := [(2, .int v17), (1, .int v16), (0, rf E (b + 7))]) hx hb dX0_gotInAll_17 hl (k := 2) rfl (by rw [e17]; rfl) (by decide) rfl (fun ls hl => ?_)
        refine lv_goto (tgt := 4) hx hb dX0_gotInAll_20 (by decide) ?_
        exact ih4 v16 v17 _ _ _ hf hW hS (lv_sub hl [2, 1, 0] rfl)
  refine lv_iconst (v := 0) hx hb dX0_gotInAll_0 (by decide) ?_
  refine lv_istore_n (lv' := [(1, .int 0), (0, rf E (b + 7))]) hx hb dX0_gotInAll_1 rfl hl (by decide) rfl (fun ls hl => ?_)
  refine lv_iconst (v := 0) hx hb dX0_gotInAll_2 (by decide) ?_
  refine lv_istore_n (lv' := [(2, .int 0), (1, .int 0), (0, rf E (b + 7))]) hx hb dX0_gotInAll_3 rfl hl (by decide) rfl (fun ls hl => ?_)
  exact J4 4096 0 0 _ _ _ hf hW hS (lv_sub hl [2, 1, 0] rfl)
def f_X0_areAlike (b : Nat) (x : XS) (a0 : Int32) (a1 : Int32) : Option (Int32) :=
    (f_X0_followedBy b x a0).bind fun v2 =>
    if (v2 = (-1) : Prop) then
      some 0
    else
      ((f_X0_followedBy b x a0).bind fun v11 =>
      (f_X0_followedBy b x a1).bind fun v16 =>
      if (v11 = v16 : Prop) then
        some 1
      else
        some 0)
set_option maxRecDepth 100000 in
set_option maxHeartbeats 4000000 in
theorem p_X0_areAlike (l : Launch) (E : TE) {b : Nat} (hB_b : IsB b) (x m : XS) (g o : Int64) {a0 : Int32} {a1 : Int32} {r : Int32} (hf : f_X0_areAlike b x a0 a1 = some r) : MG l E yX0_areAlike cX0_areAlike 3 (some .boolean) 2 [rf E (b + 7), .int a0, .int a1] (Wd E x m g o) (Wd E x m g o) (some (.int r)) := by
  unfold f_X0_areAlike at hf
  refine m_in (by decide) (Nat.le_of_ble_eq_true rfl) ?_
  intro p e s mi args below meth c H ls hx hb hr hlk hml hown hB hK hW hS hl
  have hl : lv_has ls 3 [(0, rf E (b + 7)), (1, .int a0), (2, .int a1)] := hl
  refine lv_aload_n hx hb dX0_areAlike_0 rfl (lv_at hl 0 rfl) ?_
  refine lv_iload_n hx hb dX0_areAlike_1 rfl (lv_at hl 1 rfl) ?_
  obtain ⟨v2, e2, hf⟩ := ob2 hf
  refine c_V (As := [.int a0]) (st1 := [.int v2]) (rest := []) (p_X0_followedBy l E hB_b x m g o e2) (kc_X0_61 hB ⟨Nat.le_of_ble_eq_true rfl, Nat.le_of_ble_eq_true rfl⟩) (Wd.rec hK hW (hB_b.l8 (j := 7) (by decide)) (cB_7 hB_b) (ci := 0) rfl) hx hb hml hown hB hK hW hS ⟨Nat.le_refl 0, Nat.le_refl 0⟩ rfl hl.1 rfl (Nat.le_of_ble_eq_true rfl) rfl dX0_areAlike_2 (fun H locs hW hS => ?_)
  refine lv_iconst (v := (-1)) hx hb dX0_areAlike_5 (by decide) ?_
  refine lv_icmp_eq (tgt := 26) hx hb dX0_areAlike_6 (by decide) (fun c6 => ?_) (fun c6 => ?_)
  · rw [if_pos c6] at hf
    refine lv_iconst (v := 0) hx hb dX0_areAlike_26 (by decide) ?_
    cases hf
    exact e_z hx hb hr hlk (Or.inl rfl) hW hS dX0_areAlike_27
  · rw [if_neg c6] at hf
    refine lv_aload_n hx hb dX0_areAlike_9 rfl (lv_at hl 0 rfl) ?_
    refine lv_iload_n hx hb dX0_areAlike_10 rfl (lv_at hl 1 rfl) ?_
    obtain ⟨v11, e11, hf⟩ := ob2 hf
    refine c_V (As := [.int a0]) (st1 := [.int v11]) (rest := []) (p_X0_followedBy l E hB_b x m g o e11) (kc_X0_61 hB ⟨Nat.le_of_ble_eq_true rfl, Nat.le_of_ble_eq_true rfl⟩) (Wd.rec hK hW (hB_b.l8 (j := 7) (by decide)) (cB_7 hB_b) (ci := 0) rfl) hx hb hml hown hB hK hW hS ⟨Nat.le_refl 0, Nat.le_refl 0⟩ rfl hl.1 rfl (Nat.le_of_ble_eq_true rfl) rfl dX0_areAlike_11 (fun H locs hW hS => ?_)
    refine lv_aload_n hx hb dX0_areAlike_14 rfl (lv_at hl 0 rfl) ?_
    refine lv_iload_n hx hb dX0_areAlike_15 rfl (lv_at hl 2 rfl) ?_
    obtain ⟨v16, e16, hf⟩ := ob2 hf
    refine c_V (As := [.int a1]) (st1 := [.int v16, .int v11]) (rest := [.int v11]) (p_X0_followedBy l E hB_b x m g o e16) (kc_X0_61 hB ⟨Nat.le_of_ble_eq_true rfl, Nat.le_of_ble_eq_true rfl⟩) (Wd.rec hK hW (hB_b.l8 (j := 7) (by decide)) (cB_7 hB_b) (ci := 0) rfl) hx hb hml hown hB hK hW hS ⟨Nat.le_refl 0, Nat.le_refl 0⟩ rfl hl.1 rfl (Nat.le_of_ble_eq_true rfl) rfl dX0_areAlike_16 (fun H locs hW hS => ?_)
    refine lv_icmp_ne (tgt := 26) hx hb dX0_areAlike_19 (by decide) (fun c19 => ?_) (fun c19 => ?_)
    · rw [if_neg c19] at hf
      refine lv_iconst (v := 0) hx hb dX0_areAlike_26 (by decide) ?_
      cases hf
      exact e_z hx hb hr hlk (Or.inl rfl) hW hS dX0_areAlike_27
    · rw [if_pos c19] at hf
      refine lv_iconst (v := 1) hx hb dX0_areAlike_22 (by decide) ?_
      refine lv_goto (tgt := 27) hx hb dX0_areAlike_23 (by decide) ?_
      cases hf
      exact e_z hx hb hr hlk (Or.inr rfl) hW hS dX0_areAlike_27
def f_X0_unequalPairs_49 (b : Nat) (x : XS) (k4 : Int32 → Int32 → Option (Int32)) (k16 : Int32 → Int32 → Int32 → Option (Int32)) (l1_49 : Int32) (l2_49 : Int32) (l3_49 : Int32) : Option (Int32) :=
    (some (l3_49 + 1)).bind fun v49 =>
    k16 l1_49 l2_49 v49
def f_X0_unequalPairs_16 (b : Nat) (x : XS) (k4 : Int32 → Int32 → Option (Int32)) : Nat → Int32 → Int32 → Int32 → Option (Int32)
  | 0, _, _, _ => none
  | n16 + 1, l1_16, l2_16, l3_16 =>
    if ((x (b + 7) 0) ≤ l3_16 : Prop) then
      ((some (l2_16 + 1)).bind fun v55 =>
      k4 l1_16 v55)
    else
      ((f_X0_areAlike b x l2_16 l3_16).bind fun v27 =>
      if (v27 = 0 : Prop) then
        f_X0_unequalPairs_49 b x k4 (f_X0_unequalPairs_16 b x k4 n16) l1_16 l2_16 l3_16
      else
        ((f_X0_gotOf b x l2_16).bind fun v35 =>
        (f_X0_gotOf b x l3_16).bind fun v40 =>
        if (v35 = v40 : Prop) then
          f_X0_unequalPairs_49 b x k4 (f_X0_unequalPairs_16 b x k4 n16) l1_16 l2_16 l3_16
        else
          ((some (l1_16 + 1)).bind fun v46 =>
          f_X0_unequalPairs_49 b x k4 (f_X0_unequalPairs_16 b x k4 n16) v46 l2_16 l3_16)))
def f_X0_unequalPairs_4 (b : Nat) (x : XS) : Nat → Int32 → Int32 → Option (Int32)
  | 0, _, _ => none
  | n4 + 1, l1_4, l2_4 =>
    if ((x (b + 7) 0) ≤ l2_4 : Prop) then
      some l1_4
    else
      ((some ((l2_4 + 1))).bind fun v15 =>
      f_X0_unequalPairs_16 b x (f_X0_unequalPairs_4 b x n4) 4096 l1_4 l2_4 v15)
def f_X0_unequalPairs (b : Nat) (x : XS) : Option (Int32) :=
    f_X0_unequalPairs_4 b x 4096 0 0
set_option maxRecDepth 100000 in
set_option maxHeartbeats 4000000 in
theorem p_X0_unequalPairs (l : Launch) (E : TE) {b : Nat} (hB_b : IsB b) (x m : XS) (g o : Int64) {r : Int32} (hf : f_X0_unequalPairs b x = some r) : MG l E yX0_unequalPairs cX0_unequalPairs 4 (some .int) 3 [rf E (b + 7)] (Wd E x m g o) (Wd E x m g o) (some (.int r)) := by
  unfold f_X0_unequalPairs at hf
  refine m_in (by decide) (Nat.le_of_ble_eq_true rfl) ?_
  intro p e s mi args below meth c H ls hx hb hr hlk hml hown hB hK hW hS hl
  have hl : lv_has ls 4 [(0, rf E (b + 7))] := hl
  have J4 : ∀ (n4 : Nat), ∀ (l1_4 : Int32) (l2_4 : Int32) (H : Heap) (locs : List Loc) (ls : Array Slot), f_X0_unequalPairs_4 b x n4 l1_4 l2_4 = some r → Wd E x m g o H → va_S (Ah E) s.heap H locs → lv_has ls 4 [(0, rf E (b + 7)), (1, .int l1_4), (2, .int l2_4)] → W p l e (rmH 3) s mi args below meth c H locs 0 0 (EQ E below args s (Wd E x m g o) (some (.int r))) (F0 mi 4 ls []) := by
    intro n4
    induction n4 with
    | zero => intro l1_4 l2_4 H locs ls hf; exact absurd hf (fun z => nomatch (show (none : Option (Int32)) = some _ from z))
    | succ n4 ih4 =>
      intro l1_4 l2_4 H locs ls hf hW hS hl
      rw [f_X0_unequalPairs_4.eq_2] at hf
      have J16 : ∀ (n16 : Nat), ∀ (l1_16 : Int32) (l2_16 : Int32) (l3_16 : Int32) (H : Heap) (locs : List Loc) (ls : Array Slot), f_X0_unequalPairs_16 b x (f_X0_unequalPairs_4 b x n4) n16 l1_16 l2_16 l3_16 = some r → Wd E x m g o H → va_S (Ah E) s.heap H locs → lv_has ls 4 [(0, rf E (b + 7)), (1, .int l1_16), (2, .int l2_16), (3, .int l3_16)] → W p l e (rmH 3) s mi args below meth c H locs 0 0 (EQ E below args s (Wd E x m g o) (some (.int r))) (F0 mi 16 ls []) := by
        intro n16
        induction n16 with
        | zero => intro l1_16 l2_16 l3_16 H locs ls hf; exact absurd hf (fun z => nomatch (show (none : Option (Int32)) = some _ from z))
        | succ n16 ih16 =>
          intro l1_16 l2_16 l3_16 H locs ls hf hW hS hl
          rw [f_X0_unequalPairs_16.eq_2] at hf
          have J49 : ∀ (l1_49 : Int32) (l2_49 : Int32) (l3_49 : Int32) (H : Heap) (locs : List Loc) (ls : Array Slot), f_X0_unequalPairs_49 b x (f_X0_unequalPairs_4 b x n4) (f_X0_unequalPairs_16 b x (f_X0_unequalPairs_4 b x n4) n16) l1_49 l2_49 l3_49 = some r → Wd E x m g o H → va_S (Ah E) s.heap H locs → lv_has ls 4 [(0, rf E (b + 7)), (1, .int l1_49), (2, .int l2_49), (3, .int l3_49)] → W p l e (rmH 3) s mi args below meth c H locs 0 0 (EQ E below args s (Wd E x m g o) (some (.int r))) (F0 mi 49 ls []) := by
            intro l1_49 l2_49 l3_49 H locs ls hf hW hS hl
            unfold f_X0_unequalPairs_49 at hf
            obtain ⟨v49, e49, hf⟩ := ob hf
            refine lv_iinc (v := v49) (lv' := [(3, .int v49), (0, rf E (b + 7)), (1, .int l1_49), (2, .int l2_49)]) hx hb dX0_unequalPairs_49 hl (k := 3) rfl (by rw [e49]; rfl) (by decide) rfl (fun ls hl => ?_)
            refine lv_goto (tgt := 16) hx hb dX0_unequalPairs_52 (by decide) ?_
            exact ih16 l1_49 l2_49 v49 _ _ _ hf hW hS (lv_sub hl [1, 2, 3, 0] rfl)
          refine lv_iload_n hx hb dX0_unequalPairs_16 rfl (lv_at hl 3 rfl) ?_
          refine lv_aload_n hx hb dX0_unequalPairs_17 rfl (lv_at hl 0 rfl) ?_
          refine gf_X0_39 hx hb hB hK hown hW hB_b dX0_unequalPairs_18 ?_
          refine lv_icmp_ge (tgt := 55) hx hb dX0_unequalPairs_21 (by decide) (fun c21 => ?_) (fun c21 => ?_)
          · rw [if_pos c21] at hf
            obtain ⟨v55, e55, hf⟩ := ob hf
            refine lv_iinc (v := v55) (lv' := [(2, .int v55), (0, rf E (b + 7)), (1, .int l1_16), (3, .int l3_16)]) hx hb dX0_unequalPairs_55 hl (k := 2) rfl (by rw [e55]; rfl) (by decide) rfl (fun ls hl => ?_)
            refine lv_goto (tgt := 4) hx hb dX0_unequalPairs_58 (by decide) ?_
            exact ih4 l1_16 v55 _ _ _ hf hW hS (lv_sub hl [1, 2, 0] rfl)
          · rw [if_neg c21] at hf
            refine lv_aload_n hx hb dX0_unequalPairs_24 rfl (lv_at hl 0 rfl) ?_
            refine lv_iload_n hx hb dX0_unequalPairs_25 rfl (lv_at hl 2 rfl) ?_
            refine lv_iload_n hx hb dX0_unequalPairs_26 rfl (lv_at hl 3 rfl) ?_
            obtain ⟨v27, e27, hf⟩ := ob2 hf
            refine c_V (As := [.int l2_16, .int l3_16]) (st1 := [.int v27]) (rest := []) (p_X0_areAlike l E hB_b x m g o e27) (kc_X0_73 hB ⟨Nat.le_of_ble_eq_true rfl, Nat.le_of_ble_eq_true rfl⟩) (Wd.rec hK hW (hB_b.l8 (j := 7) (by decide)) (cB_7 hB_b) (ci := 0) rfl) hx hb hml hown hB hK hW hS ⟨Nat.le_refl 0, Nat.le_refl 0⟩ rfl hl.1 rfl (Nat.le_of_ble_eq_true rfl) rfl dX0_unequalPairs_27 (fun H locs hW hS => ?_)
            refine lv_if_eq (tgt := 49) hx hb dX0_unequalPairs_30 (by decide) (fun c30 => ?_) (fun c30 => ?_)
            · rw [if_pos c30] at hf
              exact J49 l1_16 l2_16 l3_16 _ _ _ hf hW hS (lv_sub hl [0, 1, 2, 3] rfl)
            · rw [if_neg c30] at hf
              refine lv_aload_n hx hb dX0_unequalPairs_33 rfl (lv_at hl 0 rfl) ?_
              refine lv_iload_n hx hb dX0_unequalPairs_34 rfl (lv_at hl 2 rfl) ?_
              obtain ⟨v35, e35, hf⟩ := ob2 hf
              refine c_V (As := [.int l2_16]) (st1 := [.int v35]) (rest := []) (p_X0_gotOf l E hB_b x m g o e35) (kc_X0_67 hB ⟨Nat.le_of_ble_eq_true rfl, Nat.le_of_ble_eq_true rfl⟩) (Wd.rec hK hW (hB_b.l8 (j := 7) (by decide)) (cB_7 hB_b) (ci := 0) rfl) hx hb hml hown hB hK hW hS ⟨Nat.le_refl 0, Nat.le_refl 0⟩ rfl hl.1 rfl (Nat.le_of_ble_eq_true rfl) rfl dX0_unequalPairs_35 (fun H locs hW hS => ?_)
              refine lv_aload_n hx hb dX0_unequalPairs_38 rfl (lv_at hl 0 rfl) ?_
              refine lv_iload_n hx hb dX0_unequalPairs_39 rfl (lv_at hl 3 rfl) ?_
              obtain ⟨v40, e40, hf⟩ := ob2 hf
              refine c_V (As := [.int l3_16]) (st1 := [.int v40, .int v35]) (rest := [.int v35]) (p_X0_gotOf l E hB_b x m g o e40) (kc_X0_67 hB ⟨Nat.le_of_ble_eq_true rfl, Nat.le_of_ble_eq_true rfl⟩) (Wd.rec hK hW (hB_b.l8 (j := 7) (by decide)) (cB_7 hB_b) (ci := 0) rfl) hx hb hml hown hB hK hW hS ⟨Nat.le_refl 0, Nat.le_refl 0⟩ rfl hl.1 rfl (Nat.le_of_ble_eq_true rfl) rfl dX0_unequalPairs_40 (fun H locs hW hS => ?_)
              refine lv_icmp_eq (tgt := 49) hx hb dX0_unequalPairs_43 (by decide) (fun c43 => ?_) (fun c43 => ?_)
              · rw [if_pos c43] at hf
                exact J49 l1_16 l2_16 l3_16 _ _ _ hf hW hS (lv_sub hl [0, 1, 2, 3] rfl)
              · rw [if_neg c43] at hf
                obtain ⟨v46, e46, hf⟩ := ob hf
                refine lv_iinc (v := v46) (lv' := [(1, .int v46), (0, rf E (b + 7)), (2, .int l2_16), (3, .int l3_16)]) hx hb dX0_unequalPairs_46 hl (k := 1) rfl (by rw [e46]; rfl) (by decide) rfl (fun ls hl => ?_)
                exact J49 v46 l2_16 l3_16 _ _ _ hf hW hS (lv_sub hl [1, 0, 2, 3] rfl)
      refine lv_iload_n hx hb dX0_unequalPairs_4 rfl (lv_at hl 2 rfl) ?_
      refine lv_aload_n hx hb dX0_unequalPairs_5 rfl (lv_at hl 0 rfl) ?_
      refine gf_X0_39 hx hb hB hK hown hW hB_b dX0_unequalPairs_6 ?_
      refine lv_icmp_ge (tgt := 61) hx hb dX0_unequalPairs_9 (by decide) (fun c9 => ?_) (fun c9 => ?_)
      · rw [if_pos c9] at hf
        refine lv_iload_n hx hb dX0_unequalPairs_61 rfl (lv_at hl 1 rfl) ?_
        cases hf
        exact e_i hx hb hr hlk hW hS dX0_unequalPairs_62
      · rw [if_neg c9] at hf
        refine lv_iload_n hx hb dX0_unequalPairs_12 rfl (lv_at hl 2 rfl) ?_
        refine lv_iconst (v := 1) hx hb dX0_unequalPairs_13 (by decide) ?_
        refine lv_iadd hx hb dX0_unequalPairs_14 ?_
        obtain ⟨v15, e15, hf⟩ := ob hf
        refine lv_nm e15 ?_
        refine lv_istore_n (lv' := [(3, .int v15), (0, rf E (b + 7)), (1, .int l1_4), (2, .int l2_4)]) hx hb dX0_unequalPairs_15 rfl hl (by decide) rfl (fun ls hl => ?_)
        exact J16 4096 l1_4 l2_4 v15 _ _ _ hf hW hS (lv_sub hl [1, 2, 3, 0] rfl)
  refine lv_iconst (v := 0) hx hb dX0_unequalPairs_0 (by decide) ?_
  refine lv_istore_n (lv' := [(1, .int 0), (0, rf E (b + 7))]) hx hb dX0_unequalPairs_1 rfl hl (by decide) rfl (fun ls hl => ?_)
  refine lv_iconst (v := 0) hx hb dX0_unequalPairs_2 (by decide) ?_
  refine lv_istore_n (lv' := [(2, .int 0), (1, .int 0), (0, rf E (b + 7))]) hx hb dX0_unequalPairs_3 rfl hl (by decide) rfl (fun ls hl => ?_)
  exact J4 4096 0 0 _ _ _ hf hW hS (lv_sub hl [2, 1, 0] rfl)
def f_X0_ofOne_35 (b : Nat) (x : XS) (k5 : Int32 → Int32 → Int32 → Int32 → Option (Int32)) (l1_35 : Int32) (l2_35 : Int32) (l3_35 : Int32) (l4_35 : Int32) : Option (Int32) :=
    (some (l4_35 + 1)).bind fun v35 =>
    k5 l1_35 l2_35 l3_35 v35
def f_X0_ofOne_5 (b : Nat) (x : XS) : Nat → Int32 → Int32 → Int32 → Int32 → Option (Int32)
  | 0, _, _, _, _ => none
  | n5 + 1, l1_5, l2_5, l3_5, l4_5 =>
    if ((x (b + 7) 0) ≤ l4_5 : Prop) then
      some (-1)
    else
      ((f_X0_customerOf b x l4_5).bind fun v17 =>
      if (v17 = l1_5 : Prop) then
        (if (l3_5 = l2_5 : Prop) then
          some l4_5
        else
          ((some (l3_5 + 1)).bind fun v32 =>
          f_X0_ofOne_35 b x (f_X0_ofOne_5 b x n5) l1_5 l2_5 v32 l4_5))
      else
        f_X0_ofOne_35 b x (f_X0_ofOne_5 b x n5) l1_5 l2_5 l3_5 l4_5)
def f_X0_ofOne (b : Nat) (x : XS) (a0 : Int32) (a1 : Int32) : Option (Int32) :=
    f_X0_ofOne_5 b x 4096 a0 a1 0 0
set_option maxRecDepth 100000 in
set_option maxHeartbeats 4000000 in
theorem p_X0_ofOne (l : Launch) (E : TE) {b : Nat} (hB_b : IsB b) (x m : XS) (g o : Int64) {a0 : Int32} {a1 : Int32} {r : Int32} (hf : f_X0_ofOne b x a0 a1 = some r) : MG l E yX0_ofOne cX0_ofOne 5 (some .int) 2 [rf E (b + 7), .int a0, .int a1] (Wd E x m g o) (Wd E x m g o) (some (.int r)) := by
  unfold f_X0_ofOne at hf
  refine m_in (by decide) (Nat.le_of_ble_eq_true rfl) ?_
  intro p e s mi args below meth c H ls hx hb hr hlk hml hown hB hK hW hS hl
  have hl : lv_has ls 5 [(0, rf E (b + 7)), (1, .int a0), (2, .int a1)] := hl
  have J5 : ∀ (n5 : Nat), ∀ (l1_5 : Int32) (l2_5 : Int32) (l3_5 : Int32) (l4_5 : Int32) (H : Heap) (locs : List Loc) (ls : Array Slot), f_X0_ofOne_5 b x n5 l1_5 l2_5 l3_5 l4_5 = some r → Wd E x m g o H → va_S (Ah E) s.heap H locs → lv_has ls 5 [(0, rf E (b + 7)), (1, .int l1_5), (2, .int l2_5), (3, .int l3_5), (4, .int l4_5)] → W p l e (rmH 2) s mi args below meth c H locs 0 0 (EQ E below args s (Wd E x m g o) (some (.int r))) (F0 mi 5 ls []) := by
    intro n5
    induction n5 with
    | zero => intro l1_5 l2_5 l3_5 l4_5 H locs ls hf; exact absurd hf (fun z => nomatch (show (none : Option (Int32)) = some _ from z))
    | succ n5 ih5 =>
      intro l1_5 l2_5 l3_5 l4_5 H locs ls hf hW hS hl
      rw [f_X0_ofOne_5.eq_2] at hf
      have J35 : ∀ (l1_35 : Int32) (l2_35 : Int32) (l3_35 : Int32) (l4_35 : Int32) (H : Heap) (locs : List Loc) (ls : Array Slot), f_X0_ofOne_35 b x (f_X0_ofOne_5 b x n5) l1_35 l2_35 l3_35 l4_35 = some r → Wd E x m g o H → va_S (Ah E) s.heap H locs → lv_has ls 5 [(0, rf E (b + 7)), (1, .int l1_35), (2, .int l2_35), (3, .int l3_35), (4, .int l4_35)] → W p l e (rmH 2) s mi args below meth c H locs 0 0 (EQ E below args s (Wd E x m g o) (some (.int r))) (F0 mi 35 ls []) := by
        intro l1_35 l2_35 l3_35 l4_35 H locs ls hf hW hS hl
        unfold f_X0_ofOne_35 at hf
        obtain ⟨v35, e35, hf⟩ := ob hf
        refine lv_iinc (v := v35) (lv' := [(4, .int v35), (0, rf E (b + 7)), (1, .int l1_35), (2, .int l2_35), (3, .int l3_35)]) hx hb dX0_ofOne_35 hl (k := 4) rfl (by rw [e35]; rfl) (by decide) rfl (fun ls hl => ?_)
        refine lv_goto (tgt := 5) hx hb dX0_ofOne_38 (by decide) ?_
        exact ih5 l1_35 l2_35 l3_35 v35 _ _ _ hf hW hS (lv_sub hl [1, 2, 3, 4, 0] rfl)
      refine lv_iload hx hb dX0_ofOne_5 (lv_at hl 4 rfl) ?_
      refine lv_aload_n hx hb dX0_ofOne_7 rfl (lv_at hl 0 rfl) ?_
      refine gf_X0_39 hx hb hB hK hown hW hB_b dX0_ofOne_8 ?_
      refine lv_icmp_ge (tgt := 41) hx hb dX0_ofOne_11 (by decide) (fun c11 => ?_) (fun c11 => ?_)
      · rw [if_pos c11] at hf
        refine lv_iconst (v := (-1)) hx hb dX0_ofOne_41 (by decide) ?_
        cases hf
        exact e_i hx hb hr hlk hW hS dX0_ofOne_42
      · rw [if_neg c11] at hf
        refine lv_aload_n hx hb dX0_ofOne_14 rfl (lv_at hl 0 rfl) ?_
        refine lv_iload hx hb dX0_ofOne_15 (lv_at hl 4 rfl) ?_
        obtain ⟨v17, e17, hf⟩ := ob2 hf
        refine c_V (As := [.int l4_5]) (st1 := [.int v17]) (rest := []) (p_X0_customerOf l E hB_b x m g o e17) (kc_X0_64 hB ⟨Nat.le_of_ble_eq_true rfl, Nat.le_of_ble_eq_true rfl⟩) (Wd.rec hK hW (hB_b.l8 (j := 7) (by decide)) (cB_7 hB_b) (ci := 0) rfl) hx hb hml hown hB hK hW hS ⟨Nat.le_refl 0, Nat.le_refl 0⟩ rfl hl.1 rfl (Nat.le_of_ble_eq_true rfl) rfl dX0_ofOne_17 (fun H locs hW hS => ?_)
        refine lv_iload_n hx hb dX0_ofOne_20 rfl (lv_at hl 1 rfl) ?_
        refine lv_icmp_ne (tgt := 35) hx hb dX0_ofOne_21 (by decide) (fun c21 => ?_) (fun c21 => ?_)
        · rw [if_neg c21] at hf
          exact J35 l1_5 l2_5 l3_5 l4_5 _ _ _ hf hW hS (lv_sub hl [0, 1, 2, 3, 4] rfl)
        · rw [if_pos c21] at hf
          refine lv_iload_n hx hb dX0_ofOne_24 rfl (lv_at hl 3 rfl) ?_
          refine lv_iload_n hx hb dX0_ofOne_25 rfl (lv_at hl 2 rfl) ?_
          refine lv_icmp_ne (tgt := 32) hx hb dX0_ofOne_26 (by decide) (fun c26 => ?_) (fun c26 => ?_)
          · rw [if_neg c26] at hf
            obtain ⟨v32, e32, hf⟩ := ob hf
            refine lv_iinc (v := v32) (lv' := [(3, .int v32), (0, rf E (b + 7)), (1, .int l1_5), (2, .int l2_5), (4, .int l4_5)]) hx hb dX0_ofOne_32 hl (k := 3) rfl (by rw [e32]; rfl) (by decide) rfl (fun ls hl => ?_)
            exact J35 l1_5 l2_5 v32 l4_5 _ _ _ hf hW hS (lv_sub hl [1, 2, 3, 0, 4] rfl)
          · rw [if_pos c26] at hf
            refine lv_iload hx hb dX0_ofOne_29 (lv_at hl 4 rfl) ?_
            cases hf
            exact e_i hx hb hr hlk hW hS dX0_ofOne_31
  refine lv_iconst (v := 0) hx hb dX0_ofOne_0 (by decide) ?_
  refine lv_istore_n (lv' := [(3, .int 0), (0, rf E (b + 7)), (1, .int a0), (2, .int a1)]) hx hb dX0_ofOne_1 rfl hl (by decide) rfl (fun ls hl => ?_)
  refine lv_iconst (v := 0) hx hb dX0_ofOne_2 (by decide) ?_
  refine lv_istore (lv' := [(4, .int 0), (3, .int 0), (0, rf E (b + 7)), (1, .int a0), (2, .int a1)]) hx hb dX0_ofOne_3 hl (by decide) rfl (fun ls hl => ?_)
  exact J5 4096 a0 a1 0 0 _ _ _ hf hW hS (lv_sub hl [2, 3, 4, 1, 0] rfl)
end
section
theorem dX3_copyFrom_0 : decode cX3_copyFrom 0 = .ok (.aload_n 1, 1) := by decide +kernel
theorem dX3_copyFrom_1 : decode cX3_copyFrom 1 = .ok (.ifnonnull 4, 3) := by decide +kernel
theorem dX3_copyFrom_4 : decode cX3_copyFrom 4 = .ok (.return_, 1) := by decide +kernel
theorem dX3_copyFrom_5 : decode cX3_copyFrom 5 = .ok (.aload_n 0, 1) := by decide +kernel
theorem dX3_copyFrom_6 : decode cX3_copyFrom 6 = .ok (.getfield 12, 3) := by decide +kernel
theorem dX3_copyFrom_9 : decode cX3_copyFrom 9 = .ok (.aload_n 1, 1) := by decide +kernel
theorem dX3_copyFrom_10 : decode cX3_copyFrom 10 = .ok (.getfield 12, 3) := by decide +kernel
theorem dX3_copyFrom_13 : decode cX3_copyFrom 13 = .ok (.invokevirtual 58, 3) := by decide +kernel
theorem dX3_copyFrom_16 : decode cX3_copyFrom 16 = .ok (.aload_n 0, 1) := by decide +kernel
theorem dX3_copyFrom_17 : decode cX3_copyFrom 17 = .ok (.getfield 21, 3) := by decide +kernel
theorem dX3_copyFrom_20 : decode cX3_copyFrom 20 = .ok (.aload_n 1, 1) := by decide +kernel
theorem dX3_copyFrom_21 : decode cX3_copyFrom 21 = .ok (.getfield 21, 3) := by decide +kernel
theorem dX3_copyFrom_24 : decode cX3_copyFrom 24 = .ok (.invokevirtual 62, 3) := by decide +kernel
theorem dX3_copyFrom_27 : decode cX3_copyFrom 27 = .ok (.aload_n 0, 1) := by decide +kernel
theorem dX3_copyFrom_28 : decode cX3_copyFrom 28 = .ok (.getfield 28, 3) := by decide +kernel
theorem dX3_copyFrom_31 : decode cX3_copyFrom 31 = .ok (.aload_n 1, 1) := by decide +kernel
theorem dX3_copyFrom_32 : decode cX3_copyFrom 32 = .ok (.getfield 28, 3) := by decide +kernel
theorem dX3_copyFrom_35 : decode cX3_copyFrom 35 = .ok (.invokevirtual 65, 3) := by decide +kernel
theorem dX3_copyFrom_38 : decode cX3_copyFrom 38 = .ok (.aload_n 1, 1) := by decide +kernel
theorem dX3_copyFrom_39 : decode cX3_copyFrom 39 = .ok (.getfield 32, 3) := by decide +kernel
theorem dX3_copyFrom_42 : decode cX3_copyFrom 42 = .ok (.aload_n 0, 1) := by decide +kernel
theorem dX3_copyFrom_43 : decode cX3_copyFrom 43 = .ok (.getfield 32, 3) := by decide +kernel
theorem dX3_copyFrom_46 : decode cX3_copyFrom 46 = .ok (.invokestatic 48, 3) := by decide +kernel
theorem dX3_copyFrom_49 : decode cX3_copyFrom 49 = .ok (.aload_n 1, 1) := by decide +kernel
theorem dX3_copyFrom_50 : decode cX3_copyFrom 50 = .ok (.getfield 36, 3) := by decide +kernel
theorem dX3_copyFrom_53 : decode cX3_copyFrom 53 = .ok (.aload_n 0, 1) := by decide +kernel
theorem dX3_copyFrom_54 : decode cX3_copyFrom 54 = .ok (.getfield 36, 3) := by decide +kernel
theorem dX3_copyFrom_57 : decode cX3_copyFrom 57 = .ok (.invokestatic 48, 3) := by decide +kernel
theorem dX3_copyFrom_60 : decode cX3_copyFrom 60 = .ok (.aload_n 1, 1) := by decide +kernel
theorem dX3_copyFrom_61 : decode cX3_copyFrom 61 = .ok (.getfield 39, 3) := by decide +kernel
theorem dX3_copyFrom_64 : decode cX3_copyFrom 64 = .ok (.aload_n 0, 1) := by decide +kernel
theorem dX3_copyFrom_65 : decode cX3_copyFrom 65 = .ok (.getfield 39, 3) := by decide +kernel
theorem dX3_copyFrom_68 : decode cX3_copyFrom 68 = .ok (.invokestatic 48, 3) := by decide +kernel
theorem dX3_copyFrom_71 : decode cX3_copyFrom 71 = .ok (.aload_n 1, 1) := by decide +kernel
theorem dX3_copyFrom_72 : decode cX3_copyFrom 72 = .ok (.getfield 42, 3) := by decide +kernel
theorem dX3_copyFrom_75 : decode cX3_copyFrom 75 = .ok (.aload_n 0, 1) := by decide +kernel
theorem dX3_copyFrom_76 : decode cX3_copyFrom 76 = .ok (.getfield 42, 3) := by decide +kernel
theorem dX3_copyFrom_79 : decode cX3_copyFrom 79 = .ok (.invokestatic 48, 3) := by decide +kernel
theorem dX3_copyFrom_82 : decode cX3_copyFrom 82 = .ok (.aload_n 0, 1) := by decide +kernel
theorem dX3_copyFrom_83 : decode cX3_copyFrom 83 = .ok (.aload_n 1, 1) := by decide +kernel
theorem dX3_copyFrom_84 : decode cX3_copyFrom 84 = .ok (.getfield 68, 3) := by decide +kernel
theorem dX3_copyFrom_87 : decode cX3_copyFrom 87 = .ok (.putfield 68, 3) := by decide +kernel
theorem dX3_copyFrom_90 : decode cX3_copyFrom 90 = .ok (.return_, 1) := by decide +kernel
theorem dX3_baseOf_0 : decode cX3_baseOf 0 = .ok (.iload_n 1, 1) := by decide +kernel
theorem dX3_baseOf_1 : decode cX3_baseOf 1 = .ok (.invokestatic 76, 3) := by decide +kernel
theorem dX3_baseOf_4 : decode cX3_baseOf 4 = .ok (.ifCond .eq 12, 3) := by decide +kernel
theorem dX3_baseOf_7 : decode cX3_baseOf 7 = .ok (.aload_n 0, 1) := by decide +kernel
theorem dX3_baseOf_8 : decode cX3_baseOf 8 = .ok (.getfield 36, 3) := by decide +kernel
theorem dX3_baseOf_11 : decode cX3_baseOf 11 = .ok (.iload_n 1, 1) := by decide +kernel
theorem dX3_baseOf_12 : decode cX3_baseOf 12 = .ok (.iaload, 1) := by decide +kernel
theorem dX3_baseOf_13 : decode cX3_baseOf 13 = .ok (.goto 4, 3) := by decide +kernel
theorem dX3_baseOf_16 : decode cX3_baseOf 16 = .ok (.iconst 0, 1) := by decide +kernel
theorem dX3_baseOf_17 : decode cX3_baseOf 17 = .ok (.ireturn, 1) := by decide +kernel
theorem dX3_changeBase_0 : decode cX3_changeBase 0 = .ok (.aload_n 0, 1) := by decide +kernel
theorem dX3_changeBase_1 : decode cX3_changeBase 1 = .ok (.iload_n 1, 1) := by decide +kernel
theorem dX3_changeBase_2 : decode cX3_changeBase 2 = .ok (.invokevirtual 83, 3) := by decide +kernel
theorem dX3_changeBase_5 : decode cX3_changeBase 5 = .ok (.istore_n 3, 1) := by decide +kernel
theorem dX3_changeBase_6 : decode cX3_changeBase 6 = .ok (.iload_n 1, 1) := by decide +kernel
theorem dX3_changeBase_7 : decode cX3_changeBase 7 = .ok (.invokestatic 76, 3) := by decide +kernel
theorem dX3_changeBase_10 : decode cX3_changeBase 10 = .ok (.ifCond .eq 10, 3) := by decide +kernel
theorem dX3_changeBase_13 : decode cX3_changeBase 13 = .ok (.aload_n 0, 1) := by decide +kernel
theorem dX3_changeBase_14 : decode cX3_changeBase 14 = .ok (.getfield 36, 3) := by decide +kernel
theorem dX3_changeBase_17 : decode cX3_changeBase 17 = .ok (.iload_n 1, 1) := by decide +kernel
theorem dX3_changeBase_18 : decode cX3_changeBase 18 = .ok (.iload_n 2, 1) := by decide +kernel
theorem dX3_changeBase_19 : decode cX3_changeBase 19 = .ok (.iastore, 1) := by decide +kernel
theorem dX3_changeBase_20 : decode cX3_changeBase 20 = .ok (.iload_n 3, 1) := by decide +kernel
theorem dX3_changeBase_21 : decode cX3_changeBase 21 = .ok (.ireturn, 1) := by decide +kernel
theorem dX3_settingOf_0 : decode cX3_settingOf 0 = .ok (.iload_n 1, 1) := by decide +kernel
theorem dX3_settingOf_1 : decode cX3_settingOf 1 = .ok (.invokestatic 72, 3) := by decide +kernel
theorem dX3_settingOf_4 : decode cX3_settingOf 4 = .ok (.ifCond .eq 12, 3) := by decide +kernel
theorem dX3_settingOf_7 : decode cX3_settingOf 7 = .ok (.aload_n 0, 1) := by decide +kernel
theorem dX3_settingOf_8 : decode cX3_settingOf 8 = .ok (.getfield 32, 3) := by decide +kernel
theorem dX3_settingOf_11 : decode cX3_settingOf 11 = .ok (.iload_n 1, 1) := by decide +kernel
theorem dX3_settingOf_12 : decode cX3_settingOf 12 = .ok (.iaload, 1) := by decide +kernel
theorem dX3_settingOf_13 : decode cX3_settingOf 13 = .ok (.goto 4, 3) := by decide +kernel
theorem dX3_settingOf_16 : decode cX3_settingOf 16 = .ok (.iconst (-1), 1) := by decide +kernel
theorem dX3_settingOf_17 : decode cX3_settingOf 17 = .ok (.ireturn, 1) := by decide +kernel
theorem dX3_changeSetting_0 : decode cX3_changeSetting 0 = .ok (.aload_n 0, 1) := by decide +kernel
theorem dX3_changeSetting_1 : decode cX3_changeSetting 1 = .ok (.iload_n 1, 1) := by decide +kernel
theorem dX3_changeSetting_2 : decode cX3_changeSetting 2 = .ok (.invokevirtual 79, 3) := by decide +kernel
theorem dX3_changeSetting_5 : decode cX3_changeSetting 5 = .ok (.istore_n 3, 1) := by decide +kernel
theorem dX3_changeSetting_6 : decode cX3_changeSetting 6 = .ok (.iload_n 1, 1) := by decide +kernel
theorem dX3_changeSetting_7 : decode cX3_changeSetting 7 = .ok (.invokestatic 72, 3) := by decide +kernel
theorem dX3_changeSetting_10 : decode cX3_changeSetting 10 = .ok (.ifCond .eq 10, 3) := by decide +kernel
theorem dX3_changeSetting_13 : decode cX3_changeSetting 13 = .ok (.aload_n 0, 1) := by decide +kernel
theorem dX3_changeSetting_14 : decode cX3_changeSetting 14 = .ok (.getfield 32, 3) := by decide +kernel
theorem dX3_changeSetting_17 : decode cX3_changeSetting 17 = .ok (.iload_n 1, 1) := by decide +kernel
theorem dX3_changeSetting_18 : decode cX3_changeSetting 18 = .ok (.iload_n 2, 1) := by decide +kernel
theorem dX3_changeSetting_19 : decode cX3_changeSetting 19 = .ok (.iastore, 1) := by decide +kernel
theorem dX3_changeSetting_20 : decode cX3_changeSetting 20 = .ok (.iload_n 3, 1) := by decide +kernel
theorem dX3_changeSetting_21 : decode cX3_changeSetting 21 = .ok (.ireturn, 1) := by decide +kernel
theorem dX3_isBinding_0 : decode cX3_isBinding 0 = .ok (.aload_n 0, 1) := by decide +kernel
theorem dX3_isBinding_1 : decode cX3_isBinding 1 = .ok (.getfield 28, 3) := by decide +kernel
theorem dX3_isBinding_4 : decode cX3_isBinding 4 = .ok (.iload_n 2, 1) := by decide +kernel
theorem dX3_isBinding_5 : decode cX3_isBinding 5 = .ok (.invokevirtual 86, 3) := by decide +kernel
theorem dX3_isBinding_8 : decode cX3_isBinding 8 = .ok (.ifCond .eq 47, 3) := by decide +kernel
theorem dX3_isBinding_11 : decode cX3_isBinding 11 = .ok (.aload_n 0, 1) := by decide +kernel
theorem dX3_isBinding_12 : decode cX3_isBinding 12 = .ok (.getfield 68, 3) := by decide +kernel
theorem dX3_isBinding_15 : decode cX3_isBinding 15 = .ok (.aload_n 0, 1) := by decide +kernel
theorem dX3_isBinding_16 : decode cX3_isBinding 16 = .ok (.getfield 28, 3) := by decide +kernel
theorem dX3_isBinding_19 : decode cX3_isBinding 19 = .ok (.iload_n 2, 1) := by decide +kernel
theorem dX3_isBinding_20 : decode cX3_isBinding 20 = .ok (.invokevirtual 89, 3) := by decide +kernel
theorem dX3_isBinding_23 : decode cX3_isBinding 23 = .ok (.isub, 1) := by decide +kernel
theorem dX3_isBinding_24 : decode cX3_isBinding 24 = .ok (.aload_n 0, 1) := by decide +kernel
theorem dX3_isBinding_25 : decode cX3_isBinding 25 = .ok (.iconst 0, 1) := by decide +kernel
theorem dX3_isBinding_26 : decode cX3_isBinding 26 = .ok (.invokevirtual 79, 3) := by decide +kernel
theorem dX3_isBinding_29 : decode cX3_isBinding 29 = .ok (.if_icmp .ge 26, 3) := by decide +kernel
theorem dX3_isBinding_32 : decode cX3_isBinding 32 = .ok (.aload_n 0, 1) := by decide +kernel
theorem dX3_isBinding_33 : decode cX3_isBinding 33 = .ok (.getfield 12, 3) := by decide +kernel
theorem dX3_isBinding_36 : decode cX3_isBinding 36 = .ok (.iload_n 1, 1) := by decide +kernel
theorem dX3_isBinding_37 : decode cX3_isBinding 37 = .ok (.aload_n 0, 1) := by decide +kernel
theorem dX3_isBinding_38 : decode cX3_isBinding 38 = .ok (.getfield 28, 3) := by decide +kernel
theorem dX3_isBinding_41 : decode cX3_isBinding 41 = .ok (.iload_n 2, 1) := by decide +kernel
theorem dX3_isBinding_42 : decode cX3_isBinding 42 = .ok (.invokevirtual 92, 3) := by decide +kernel
theorem dX3_isBinding_45 : decode cX3_isBinding 45 = .ok (.invokevirtual 95, 3) := by decide +kernel
theorem dX3_isBinding_48 : decode cX3_isBinding 48 = .ok (.ifCond .eq 7, 3) := by decide +kernel
theorem dX3_isBinding_51 : decode cX3_isBinding 51 = .ok (.iconst 1, 1) := by decide +kernel
theorem dX3_isBinding_52 : decode cX3_isBinding 52 = .ok (.goto 4, 3) := by decide +kernel
theorem dX3_isBinding_55 : decode cX3_isBinding 55 = .ok (.iconst 0, 1) := by decide +kernel
theorem dX3_isBinding_56 : decode cX3_isBinding 56 = .ok (.ireturn, 1) := by decide +kernel
theorem dX3_bindingFor_0 : decode cX3_bindingFor 0 = .ok (.aload_n 0, 1) := by decide +kernel
theorem dX3_bindingFor_1 : decode cX3_bindingFor 1 = .ok (.getfield 21, 3) := by decide +kernel
theorem dX3_bindingFor_4 : decode cX3_bindingFor 4 = .ok (.iload_n 1, 1) := by decide +kernel
theorem dX3_bindingFor_5 : decode cX3_bindingFor 5 = .ok (.invokevirtual 99, 3) := by decide +kernel
theorem dX3_bindingFor_8 : decode cX3_bindingFor 8 = .ok (.istore_n 2, 1) := by decide +kernel
theorem dX3_bindingFor_9 : decode cX3_bindingFor 9 = .ok (.aload_n 0, 1) := by decide +kernel
theorem dX3_bindingFor_10 : decode cX3_bindingFor 10 = .ok (.getfield 28, 3) := by decide +kernel
theorem dX3_bindingFor_13 : decode cX3_bindingFor 13 = .ok (.iload_n 2, 1) := by decide +kernel
theorem dX3_bindingFor_14 : decode cX3_bindingFor 14 = .ok (.aload_n 0, 1) := by decide +kernel
theorem dX3_bindingFor_15 : decode cX3_bindingFor 15 = .ok (.getfield 21, 3) := by decide +kernel
theorem dX3_bindingFor_18 : decode cX3_bindingFor 18 = .ok (.iload_n 1, 1) := by decide +kernel
theorem dX3_bindingFor_19 : decode cX3_bindingFor 19 = .ok (.invokevirtual 102, 3) := by decide +kernel
theorem dX3_bindingFor_22 : decode cX3_bindingFor 22 = .ok (.invokevirtual 105, 3) := by decide +kernel
theorem dX3_bindingFor_25 : decode cX3_bindingFor 25 = .ok (.istore_n 3, 1) := by decide +kernel
theorem dX3_bindingFor_26 : decode cX3_bindingFor 26 = .ok (.aload_n 0, 1) := by decide +kernel
theorem dX3_bindingFor_27 : decode cX3_bindingFor 27 = .ok (.iload_n 2, 1) := by decide +kernel
theorem dX3_bindingFor_28 : decode cX3_bindingFor 28 = .ok (.iload_n 3, 1) := by decide +kernel
theorem dX3_bindingFor_29 : decode cX3_bindingFor 29 = .ok (.invokevirtual 109, 3) := by decide +kernel
theorem dX3_bindingFor_32 : decode cX3_bindingFor 32 = .ok (.ifCond .eq 7, 3) := by decide +kernel
theorem dX3_bindingFor_35 : decode cX3_bindingFor 35 = .ok (.iload_n 3, 1) := by decide +kernel
theorem dX3_bindingFor_36 : decode cX3_bindingFor 36 = .ok (.goto 4, 3) := by decide +kernel
theorem dX3_bindingFor_39 : decode cX3_bindingFor 39 = .ok (.iconst (-1), 1) := by decide +kernel
theorem dX3_bindingFor_40 : decode cX3_bindingFor 40 = .ok (.ireturn, 1) := by decide +kernel
theorem dX3_leftOf_0 : decode cX3_leftOf 0 = .ok (.iload_n 1, 1) := by decide +kernel
theorem dX3_leftOf_1 : decode cX3_leftOf 1 = .ok (.invokestatic 76, 3) := by decide +kernel
theorem dX3_leftOf_4 : decode cX3_leftOf 4 = .ok (.ifCond .eq 19, 3) := by decide +kernel
theorem dX3_leftOf_7 : decode cX3_leftOf 7 = .ok (.aload_n 0, 1) := by decide +kernel
theorem dX3_leftOf_8 : decode cX3_leftOf 8 = .ok (.getfield 39, 3) := by decide +kernel
theorem dX3_leftOf_11 : decode cX3_leftOf 11 = .ok (.iload_n 1, 1) := by decide +kernel
theorem dX3_leftOf_12 : decode cX3_leftOf 12 = .ok (.iaload, 1) := by decide +kernel
theorem dX3_leftOf_13 : decode cX3_leftOf 13 = .ok (.aload_n 0, 1) := by decide +kernel
theorem dX3_leftOf_14 : decode cX3_leftOf 14 = .ok (.getfield 42, 3) := by decide +kernel
theorem dX3_leftOf_17 : decode cX3_leftOf 17 = .ok (.iload_n 1, 1) := by decide +kernel
theorem dX3_leftOf_18 : decode cX3_leftOf 18 = .ok (.iaload, 1) := by decide +kernel
theorem dX3_leftOf_19 : decode cX3_leftOf 19 = .ok (.isub, 1) := by decide +kernel
theorem dX3_leftOf_20 : decode cX3_leftOf 20 = .ok (.goto 4, 3) := by decide +kernel
theorem dX3_leftOf_23 : decode cX3_leftOf 23 = .ok (.iconst 0, 1) := by decide +kernel
theorem dX3_leftOf_24 : decode cX3_leftOf 24 = .ok (.ireturn, 1) := by decide +kernel
theorem dX3_againstDecision_0 : decode cX3_againstDecision 0 = .ok (.aload_n 0, 1) := by decide +kernel
theorem dX3_againstDecision_1 : decode cX3_againstDecision 1 = .ok (.getfield 21, 3) := by decide +kernel
theorem dX3_againstDecision_4 : decode cX3_againstDecision 4 = .ok (.iload_n 1, 1) := by decide +kernel
theorem dX3_againstDecision_5 : decode cX3_againstDecision 5 = .ok (.invokevirtual 99, 3) := by decide +kernel
theorem dX3_againstDecision_8 : decode cX3_againstDecision 8 = .ok (.istore 4, 2) := by decide +kernel
theorem dX3_againstDecision_10 : decode cX3_againstDecision 10 = .ok (.aload_n 0, 1) := by decide +kernel
theorem dX3_againstDecision_11 : decode cX3_againstDecision 11 = .ok (.getfield 21, 3) := by decide +kernel
theorem dX3_againstDecision_14 : decode cX3_againstDecision 14 = .ok (.iload_n 1, 1) := by decide +kernel
theorem dX3_againstDecision_15 : decode cX3_againstDecision 15 = .ok (.invokevirtual 112, 3) := by decide +kernel
theorem dX3_againstDecision_18 : decode cX3_againstDecision 18 = .ok (.ifCond .eq 5, 3) := by decide +kernel
theorem dX3_againstDecision_21 : decode cX3_againstDecision 21 = .ok (.iconst 1, 1) := by decide +kernel
theorem dX3_againstDecision_22 : decode cX3_againstDecision 22 = .ok (.ireturn, 1) := by decide +kernel
theorem dX3_againstDecision_23 : decode cX3_againstDecision 23 = .ok (.aload_n 0, 1) := by decide +kernel
theorem dX3_againstDecision_24 : decode cX3_againstDecision 24 = .ok (.getfield 12, 3) := by decide +kernel
theorem dX3_againstDecision_27 : decode cX3_againstDecision 27 = .ok (.iload 4, 2) := by decide +kernel
theorem dX3_againstDecision_29 : decode cX3_againstDecision 29 = .ok (.iload_n 2, 1) := by decide +kernel
theorem dX3_againstDecision_30 : decode cX3_againstDecision 30 = .ok (.invokevirtual 95, 3) := by decide +kernel
theorem dX3_againstDecision_33 : decode cX3_againstDecision 33 = .ok (.ifCond .ne 5, 3) := by decide +kernel
theorem dX3_againstDecision_36 : decode cX3_againstDecision 36 = .ok (.iconst 2, 1) := by decide +kernel
theorem dX3_againstDecision_37 : decode cX3_againstDecision 37 = .ok (.ireturn, 1) := by decide +kernel
theorem dX3_againstDecision_38 : decode cX3_againstDecision 38 = .ok (.aload_n 0, 1) := by decide +kernel
theorem dX3_againstDecision_39 : decode cX3_againstDecision 39 = .ok (.getfield 12, 3) := by decide +kernel
theorem dX3_againstDecision_42 : decode cX3_againstDecision 42 = .ok (.iload 4, 2) := by decide +kernel
theorem dX3_againstDecision_44 : decode cX3_againstDecision 44 = .ok (.iload_n 2, 1) := by decide +kernel
theorem dX3_againstDecision_45 : decode cX3_againstDecision 45 = .ok (.aload_n 0, 1) := by decide +kernel
theorem dX3_againstDecision_46 : decode cX3_againstDecision 46 = .ok (.getfield 21, 3) := by decide +kernel
theorem dX3_againstDecision_49 : decode cX3_againstDecision 49 = .ok (.iload_n 1, 1) := by decide +kernel
theorem dX3_againstDecision_50 : decode cX3_againstDecision 50 = .ok (.invokevirtual 127, 3) := by decide +kernel
theorem dX3_againstDecision_53 : decode cX3_againstDecision 53 = .ok (.invokevirtual 130, 3) := by decide +kernel
theorem dX3_againstDecision_56 : decode cX3_againstDecision 56 = .ok (.ifCond .ne 5, 3) := by decide +kernel
theorem dX3_againstDecision_59 : decode cX3_againstDecision 59 = .ok (.iconst 3, 1) := by decide +kernel
theorem dX3_againstDecision_60 : decode cX3_againstDecision 60 = .ok (.ireturn, 1) := by decide +kernel
theorem dX3_againstDecision_61 : decode cX3_againstDecision 61 = .ok (.aload_n 0, 1) := by decide +kernel
theorem dX3_againstDecision_62 : decode cX3_againstDecision 62 = .ok (.iload_n 1, 1) := by decide +kernel
theorem dX3_againstDecision_63 : decode cX3_againstDecision 63 = .ok (.invokevirtual 134, 3) := by decide +kernel
theorem dX3_againstDecision_66 : decode cX3_againstDecision 66 = .ok (.istore 5, 2) := by decide +kernel
theorem dX3_againstDecision_68 : decode cX3_againstDecision 68 = .ok (.iload 5, 2) := by decide +kernel
theorem dX3_againstDecision_70 : decode cX3_againstDecision 70 = .ok (.iconst (-1), 1) := by decide +kernel
theorem dX3_againstDecision_71 : decode cX3_againstDecision 71 = .ok (.if_icmp .eq 22, 3) := by decide +kernel
theorem dX3_againstDecision_74 : decode cX3_againstDecision 74 = .ok (.aload_n 0, 1) := by decide +kernel
theorem dX3_againstDecision_75 : decode cX3_againstDecision 75 = .ok (.getfield 28, 3) := by decide +kernel
theorem dX3_againstDecision_78 : decode cX3_againstDecision 78 = .ok (.iload 5, 2) := by decide +kernel
theorem dX3_againstDecision_80 : decode cX3_againstDecision 80 = .ok (.invokevirtual 92, 3) := by decide +kernel
theorem dX3_againstDecision_83 : decode cX3_againstDecision 83 = .ok (.iload_n 2, 1) := by decide +kernel
theorem dX3_againstDecision_84 : decode cX3_againstDecision 84 = .ok (.if_icmp .eq 9, 3) := by decide +kernel
theorem dX3_againstDecision_87 : decode cX3_againstDecision 87 = .ok (.iload_n 3, 1) := by decide +kernel
theorem dX3_againstDecision_88 : decode cX3_againstDecision 88 = .ok (.ifCond .ne 5, 3) := by decide +kernel
theorem dX3_againstDecision_91 : decode cX3_againstDecision 91 = .ok (.iconst 4, 1) := by decide +kernel
theorem dX3_againstDecision_92 : decode cX3_againstDecision 92 = .ok (.ireturn, 1) := by decide +kernel
theorem dX3_againstDecision_93 : decode cX3_againstDecision 93 = .ok (.aload_n 0, 1) := by decide +kernel
theorem dX3_againstDecision_94 : decode cX3_againstDecision 94 = .ok (.getfield 12, 3) := by decide +kernel
theorem dX3_againstDecision_97 : decode cX3_againstDecision 97 = .ok (.iload 4, 2) := by decide +kernel
theorem dX3_againstDecision_99 : decode cX3_againstDecision 99 = .ok (.iload_n 2, 1) := by decide +kernel
theorem dX3_againstDecision_100 : decode cX3_againstDecision 100 = .ok (.invokevirtual 137, 3) := by decide +kernel
theorem dX3_againstDecision_103 : decode cX3_againstDecision 103 = .ok (.aload_n 0, 1) := by decide +kernel
theorem dX3_againstDecision_104 : decode cX3_againstDecision 104 = .ok (.iload 4, 2) := by decide +kernel
theorem dX3_againstDecision_106 : decode cX3_againstDecision 106 = .ok (.invokevirtual 140, 3) := by decide +kernel
theorem dX3_againstDecision_109 : decode cX3_againstDecision 109 = .ok (.if_icmp .le 7, 3) := by decide +kernel
theorem dX3_againstDecision_112 : decode cX3_againstDecision 112 = .ok (.iconst 5, 1) := by decide +kernel
theorem dX3_againstDecision_113 : decode cX3_againstDecision 113 = .ok (.goto 4, 3) := by decide +kernel
theorem dX3_againstDecision_116 : decode cX3_againstDecision 116 = .ok (.iconst 0, 1) := by decide +kernel
theorem dX3_againstDecision_117 : decode cX3_againstDecision 117 = .ok (.ireturn, 1) := by decide +kernel
theorem dX3_hand_0 : decode cX3_hand 0 = .ok (.aload_n 0, 1) := by decide +kernel
theorem dX3_hand_1 : decode cX3_hand 1 = .ok (.getfield 21, 3) := by decide +kernel
theorem dX3_hand_4 : decode cX3_hand 4 = .ok (.iload_n 1, 1) := by decide +kernel
theorem dX3_hand_5 : decode cX3_hand 5 = .ok (.invokevirtual 99, 3) := by decide +kernel
theorem dX3_hand_8 : decode cX3_hand 8 = .ok (.istore_n 3, 1) := by decide +kernel
theorem dX3_hand_9 : decode cX3_hand 9 = .ok (.aload_n 0, 1) := by decide +kernel
theorem dX3_hand_10 : decode cX3_hand 10 = .ok (.getfield 12, 3) := by decide +kernel
theorem dX3_hand_13 : decode cX3_hand 13 = .ok (.iload_n 3, 1) := by decide +kernel
theorem dX3_hand_14 : decode cX3_hand 14 = .ok (.iload_n 2, 1) := by decide +kernel
theorem dX3_hand_15 : decode cX3_hand 15 = .ok (.invokevirtual 137, 3) := by decide +kernel
theorem dX3_hand_18 : decode cX3_hand 18 = .ok (.istore 4, 2) := by decide +kernel
theorem dX3_hand_20 : decode cX3_hand 20 = .ok (.iload_n 3, 1) := by decide +kernel
theorem dX3_hand_21 : decode cX3_hand 21 = .ok (.invokestatic 76, 3) := by decide +kernel
theorem dX3_hand_24 : decode cX3_hand 24 = .ok (.ifCond .eq 23, 3) := by decide +kernel
theorem dX3_hand_27 : decode cX3_hand 27 = .ok (.aload_n 0, 1) := by decide +kernel
theorem dX3_hand_28 : decode cX3_hand 28 = .ok (.getfield 42, 3) := by decide +kernel
theorem dX3_hand_31 : decode cX3_hand 31 = .ok (.iload_n 3, 1) := by decide +kernel
theorem dX3_hand_32 : decode cX3_hand 32 = .ok (.dup2, 1) := by decide +kernel
theorem dX3_hand_33 : decode cX3_hand 33 = .ok (.iaload, 1) := by decide +kernel
theorem dX3_hand_34 : decode cX3_hand 34 = .ok (.iload 4, 2) := by decide +kernel
theorem dX3_hand_36 : decode cX3_hand 36 = .ok (.aload_n 0, 1) := by decide +kernel
theorem dX3_hand_37 : decode cX3_hand 37 = .ok (.getfield 21, 3) := by decide +kernel
theorem dX3_hand_40 : decode cX3_hand 40 = .ok (.iload_n 1, 1) := by decide +kernel
theorem dX3_hand_41 : decode cX3_hand 41 = .ok (.invokevirtual 155, 3) := by decide +kernel
theorem dX3_hand_44 : decode cX3_hand 44 = .ok (.isub, 1) := by decide +kernel
theorem dX3_hand_45 : decode cX3_hand 45 = .ok (.iadd, 1) := by decide +kernel
theorem dX3_hand_46 : decode cX3_hand 46 = .ok (.iastore, 1) := by decide +kernel
theorem dX3_hand_47 : decode cX3_hand 47 = .ok (.aload_n 0, 1) := by decide +kernel
theorem dX3_hand_48 : decode cX3_hand 48 = .ok (.getfield 21, 3) := by decide +kernel
theorem dX3_hand_51 : decode cX3_hand 51 = .ok (.iload_n 1, 1) := by decide +kernel
theorem dX3_hand_52 : decode cX3_hand 52 = .ok (.iload_n 2, 1) := by decide +kernel
theorem dX3_hand_53 : decode cX3_hand 53 = .ok (.iload 4, 2) := by decide +kernel
theorem dX3_hand_55 : decode cX3_hand 55 = .ok (.invokevirtual 158, 3) := by decide +kernel
theorem dX3_hand_58 : decode cX3_hand 58 = .ok (.return_, 1) := by decide +kernel
theorem dX3_tieOf_0 : decode cX3_tieOf 0 = .ok (.aload_n 0, 1) := by decide +kernel
theorem dX3_tieOf_1 : decode cX3_tieOf 1 = .ok (.getfield 21, 3) := by decide +kernel
theorem dX3_tieOf_4 : decode cX3_tieOf 4 = .ok (.iload_n 1, 1) := by decide +kernel
theorem dX3_tieOf_5 : decode cX3_tieOf 5 = .ok (.invokevirtual 112, 3) := by decide +kernel
theorem dX3_tieOf_8 : decode cX3_tieOf 8 = .ok (.ifCond .ne 5, 3) := by decide +kernel
theorem dX3_tieOf_11 : decode cX3_tieOf 11 = .ok (.iconst 0, 1) := by decide +kernel
theorem dX3_tieOf_12 : decode cX3_tieOf 12 = .ok (.ireturn, 1) := by decide +kernel
theorem dX3_tieOf_13 : decode cX3_tieOf 13 = .ok (.aload_n 0, 1) := by decide +kernel
theorem dX3_tieOf_14 : decode cX3_tieOf 14 = .ok (.getfield 21, 3) := by decide +kernel
theorem dX3_tieOf_17 : decode cX3_tieOf 17 = .ok (.iload_n 1, 1) := by decide +kernel
theorem dX3_tieOf_18 : decode cX3_tieOf 18 = .ok (.invokevirtual 115, 3) := by decide +kernel
theorem dX3_tieOf_21 : decode cX3_tieOf 21 = .ok (.istore_n 2, 1) := by decide +kernel
theorem dX3_tieOf_22 : decode cX3_tieOf 22 = .ok (.iload_n 2, 1) := by decide +kernel
theorem dX3_tieOf_23 : decode cX3_tieOf 23 = .ok (.iconst (-1), 1) := by decide +kernel
theorem dX3_tieOf_24 : decode cX3_tieOf 24 = .ok (.if_icmp .ne 5, 3) := by decide +kernel
theorem dX3_tieOf_27 : decode cX3_tieOf 27 = .ok (.iconst 3, 1) := by decide +kernel
theorem dX3_tieOf_28 : decode cX3_tieOf 28 = .ok (.ireturn, 1) := by decide +kernel
theorem dX3_tieOf_29 : decode cX3_tieOf 29 = .ok (.aload_n 0, 1) := by decide +kernel
theorem dX3_tieOf_30 : decode cX3_tieOf 30 = .ok (.getfield 28, 3) := by decide +kernel
theorem dX3_tieOf_33 : decode cX3_tieOf 33 = .ok (.iload_n 2, 1) := by decide +kernel
theorem dX3_tieOf_34 : decode cX3_tieOf 34 = .ok (.invokevirtual 118, 3) := by decide +kernel
theorem dX3_tieOf_37 : decode cX3_tieOf 37 = .ok (.iload_n 1, 1) := by decide +kernel
theorem dX3_tieOf_38 : decode cX3_tieOf 38 = .ok (.if_icmp .ne 7, 3) := by decide +kernel
theorem dX3_tieOf_41 : decode cX3_tieOf 41 = .ok (.iconst 1, 1) := by decide +kernel
theorem dX3_tieOf_42 : decode cX3_tieOf 42 = .ok (.goto 4, 3) := by decide +kernel
theorem dX3_tieOf_45 : decode cX3_tieOf 45 = .ok (.iconst 2, 1) := by decide +kernel
theorem dX3_tieOf_46 : decode cX3_tieOf 46 = .ok (.ireturn, 1) := by decide +kernel
theorem dX3_makeDecision_0 : decode cX3_makeDecision 0 = .ok (.aload_n 0, 1) := by decide +kernel
theorem dX3_makeDecision_1 : decode cX3_makeDecision 1 = .ok (.getfield 21, 3) := by decide +kernel
theorem dX3_makeDecision_4 : decode cX3_makeDecision 4 = .ok (.iload_n 1, 1) := by decide +kernel
theorem dX3_makeDecision_5 : decode cX3_makeDecision 5 = .ok (.invokevirtual 99, 3) := by decide +kernel
theorem dX3_makeDecision_8 : decode cX3_makeDecision 8 = .ok (.istore 4, 2) := by decide +kernel
theorem dX3_makeDecision_10 : decode cX3_makeDecision 10 = .ok (.aload_n 0, 1) := by decide +kernel
theorem dX3_makeDecision_11 : decode cX3_makeDecision 11 = .ok (.iload_n 1, 1) := by decide +kernel
theorem dX3_makeDecision_12 : decode cX3_makeDecision 12 = .ok (.invokevirtual 134, 3) := by decide +kernel
theorem dX3_makeDecision_15 : decode cX3_makeDecision 15 = .ok (.istore 5, 2) := by decide +kernel
theorem dX3_makeDecision_17 : decode cX3_makeDecision 17 = .ok (.aload_n 0, 1) := by decide +kernel
theorem dX3_makeDecision_18 : decode cX3_makeDecision 18 = .ok (.iload_n 1, 1) := by decide +kernel
theorem dX3_makeDecision_19 : decode cX3_makeDecision 19 = .ok (.iload_n 2, 1) := by decide +kernel
theorem dX3_makeDecision_20 : decode cX3_makeDecision 20 = .ok (.invokevirtual 143, 3) := by decide +kernel
theorem dX3_makeDecision_23 : decode cX3_makeDecision 23 = .ok (.iload 5, 2) := by decide +kernel
theorem dX3_makeDecision_25 : decode cX3_makeDecision 25 = .ok (.iconst (-1), 1) := by decide +kernel
theorem dX3_makeDecision_26 : decode cX3_makeDecision 26 = .ok (.if_icmp .ne 46, 3) := by decide +kernel
theorem dX3_makeDecision_29 : decode cX3_makeDecision 29 = .ok (.aload_n 0, 1) := by decide +kernel
theorem dX3_makeDecision_30 : decode cX3_makeDecision 30 = .ok (.getfield 28, 3) := by decide +kernel
theorem dX3_makeDecision_33 : decode cX3_makeDecision 33 = .ok (.iload 4, 2) := by decide +kernel
theorem dX3_makeDecision_35 : decode cX3_makeDecision 35 = .ok (.aload_n 0, 1) := by decide +kernel
theorem dX3_makeDecision_36 : decode cX3_makeDecision 36 = .ok (.getfield 21, 3) := by decide +kernel
theorem dX3_makeDecision_39 : decode cX3_makeDecision 39 = .ok (.iload_n 1, 1) := by decide +kernel
theorem dX3_makeDecision_40 : decode cX3_makeDecision 40 = .ok (.invokevirtual 102, 3) := by decide +kernel
theorem dX3_makeDecision_43 : decode cX3_makeDecision 43 = .ok (.iload_n 2, 1) := by decide +kernel
theorem dX3_makeDecision_44 : decode cX3_makeDecision 44 = .ok (.aload_n 0, 1) := by decide +kernel
theorem dX3_makeDecision_45 : decode cX3_makeDecision 45 = .ok (.getfield 68, 3) := by decide +kernel
theorem dX3_makeDecision_48 : decode cX3_makeDecision 48 = .ok (.iload_n 1, 1) := by decide +kernel
theorem dX3_makeDecision_49 : decode cX3_makeDecision 49 = .ok (.invokevirtual 147, 3) := by decide +kernel
theorem dX3_makeDecision_52 : decode cX3_makeDecision 52 = .ok (.istore 6, 2) := by decide +kernel
theorem dX3_makeDecision_54 : decode cX3_makeDecision 54 = .ok (.aload_n 0, 1) := by decide +kernel
theorem dX3_makeDecision_55 : decode cX3_makeDecision 55 = .ok (.getfield 21, 3) := by decide +kernel
theorem dX3_makeDecision_58 : decode cX3_makeDecision 58 = .ok (.iload_n 1, 1) := by decide +kernel
theorem dX3_makeDecision_59 : decode cX3_makeDecision 59 = .ok (.aload_n 0, 1) := by decide +kernel
theorem dX3_makeDecision_60 : decode cX3_makeDecision 60 = .ok (.getfield 68, 3) := by decide +kernel
theorem dX3_makeDecision_63 : decode cX3_makeDecision 63 = .ok (.iload 6, 2) := by decide +kernel
theorem dX3_makeDecision_65 : decode cX3_makeDecision 65 = .ok (.iconst 0, 1) := by decide +kernel
theorem dX3_makeDecision_66 : decode cX3_makeDecision 66 = .ok (.invokevirtual 151, 3) := by decide +kernel
theorem dX3_makeDecision_69 : decode cX3_makeDecision 69 = .ok (.goto 48, 3) := by decide +kernel
theorem dX3_makeDecision_72 : decode cX3_makeDecision 72 = .ok (.aload_n 0, 1) := by decide +kernel
theorem dX3_makeDecision_73 : decode cX3_makeDecision 73 = .ok (.getfield 28, 3) := by decide +kernel
theorem dX3_makeDecision_76 : decode cX3_makeDecision 76 = .ok (.iload 5, 2) := by decide +kernel
theorem dX3_makeDecision_78 : decode cX3_makeDecision 78 = .ok (.invokevirtual 92, 3) := by decide +kernel
theorem dX3_makeDecision_81 : decode cX3_makeDecision 81 = .ok (.iload_n 2, 1) := by decide +kernel
theorem dX3_makeDecision_82 : decode cX3_makeDecision 82 = .ok (.if_icmp .ne 21, 3) := by decide +kernel
theorem dX3_makeDecision_85 : decode cX3_makeDecision 85 = .ok (.aload_n 0, 1) := by decide +kernel
theorem dX3_makeDecision_86 : decode cX3_makeDecision 86 = .ok (.getfield 21, 3) := by decide +kernel
theorem dX3_makeDecision_89 : decode cX3_makeDecision 89 = .ok (.iload_n 1, 1) := by decide +kernel
theorem dX3_makeDecision_90 : decode cX3_makeDecision 90 = .ok (.aload_n 0, 1) := by decide +kernel
theorem dX3_makeDecision_91 : decode cX3_makeDecision 91 = .ok (.getfield 68, 3) := by decide +kernel
theorem dX3_makeDecision_94 : decode cX3_makeDecision 94 = .ok (.iload 5, 2) := by decide +kernel
theorem dX3_makeDecision_96 : decode cX3_makeDecision 96 = .ok (.iconst 0, 1) := by decide +kernel
theorem dX3_makeDecision_97 : decode cX3_makeDecision 97 = .ok (.invokevirtual 151, 3) := by decide +kernel
theorem dX3_makeDecision_100 : decode cX3_makeDecision 100 = .ok (.goto 17, 3) := by decide +kernel
theorem dX3_makeDecision_103 : decode cX3_makeDecision 103 = .ok (.aload_n 0, 1) := by decide +kernel
theorem dX3_makeDecision_104 : decode cX3_makeDecision 104 = .ok (.getfield 21, 3) := by decide +kernel
theorem dX3_makeDecision_107 : decode cX3_makeDecision 107 = .ok (.iload_n 1, 1) := by decide +kernel
theorem dX3_makeDecision_108 : decode cX3_makeDecision 108 = .ok (.aload_n 0, 1) := by decide +kernel
theorem dX3_makeDecision_109 : decode cX3_makeDecision 109 = .ok (.getfield 68, 3) := by decide +kernel
theorem dX3_makeDecision_112 : decode cX3_makeDecision 112 = .ok (.iconst (-1), 1) := by decide +kernel
theorem dX3_makeDecision_113 : decode cX3_makeDecision 113 = .ok (.iload_n 3, 1) := by decide +kernel
theorem dX3_makeDecision_114 : decode cX3_makeDecision 114 = .ok (.invokevirtual 151, 3) := by decide +kernel
theorem dX3_makeDecision_117 : decode cX3_makeDecision 117 = .ok (.aload_n 0, 1) := by decide +kernel
theorem dX3_makeDecision_118 : decode cX3_makeDecision 118 = .ok (.iload_n 1, 1) := by decide +kernel
theorem dX3_makeDecision_119 : decode cX3_makeDecision 119 = .ok (.invokevirtual 124, 3) := by decide +kernel
theorem dX3_makeDecision_122 : decode cX3_makeDecision 122 = .ok (.ireturn, 1) := by decide +kernel
theorem dX3_canBeAppealed_0 : decode cX3_canBeAppealed 0 = .ok (.aload_n 0, 1) := by decide +kernel
theorem dX3_canBeAppealed_1 : decode cX3_canBeAppealed 1 = .ok (.getfield 21, 3) := by decide +kernel
theorem dX3_canBeAppealed_4 : decode cX3_canBeAppealed 4 = .ok (.iload_n 1, 1) := by decide +kernel
theorem dX3_canBeAppealed_5 : decode cX3_canBeAppealed 5 = .ok (.invokevirtual 112, 3) := by decide +kernel
theorem dX3_canBeAppealed_8 : decode cX3_canBeAppealed 8 = .ok (.iconst 1, 1) := by decide +kernel
theorem dX3_canBeAppealed_9 : decode cX3_canBeAppealed 9 = .ok (.if_icmp .ne 28, 3) := by decide +kernel
theorem dX3_canBeAppealed_12 : decode cX3_canBeAppealed 12 = .ok (.aload_n 0, 1) := by decide +kernel
theorem dX3_canBeAppealed_13 : decode cX3_canBeAppealed 13 = .ok (.getfield 68, 3) := by decide +kernel
theorem dX3_canBeAppealed_16 : decode cX3_canBeAppealed 16 = .ok (.aload_n 0, 1) := by decide +kernel
theorem dX3_canBeAppealed_17 : decode cX3_canBeAppealed 17 = .ok (.getfield 21, 3) := by decide +kernel
theorem dX3_canBeAppealed_20 : decode cX3_canBeAppealed 20 = .ok (.iload_n 1, 1) := by decide +kernel
theorem dX3_canBeAppealed_21 : decode cX3_canBeAppealed 21 = .ok (.invokevirtual 162, 3) := by decide +kernel
theorem dX3_canBeAppealed_24 : decode cX3_canBeAppealed 24 = .ok (.aload_n 0, 1) := by decide +kernel
theorem dX3_canBeAppealed_25 : decode cX3_canBeAppealed 25 = .ok (.iconst 1, 1) := by decide +kernel
theorem dX3_canBeAppealed_26 : decode cX3_canBeAppealed 26 = .ok (.invokevirtual 79, 3) := by decide +kernel
theorem dX3_canBeAppealed_29 : decode cX3_canBeAppealed 29 = .ok (.iadd, 1) := by decide +kernel
theorem dX3_canBeAppealed_30 : decode cX3_canBeAppealed 30 = .ok (.if_icmp .gt 7, 3) := by decide +kernel
theorem dX3_canBeAppealed_33 : decode cX3_canBeAppealed 33 = .ok (.iconst 1, 1) := by decide +kernel
theorem dX3_canBeAppealed_34 : decode cX3_canBeAppealed 34 = .ok (.goto 4, 3) := by decide +kernel
theorem dX3_canBeAppealed_37 : decode cX3_canBeAppealed 37 = .ok (.iconst 0, 1) := by decide +kernel
theorem dX3_canBeAppealed_38 : decode cX3_canBeAppealed 38 = .ok (.ireturn, 1) := by decide +kernel
theorem dX3_againstJudgement_0 : decode cX3_againstJudgement 0 = .ok (.aload_n 0, 1) := by decide +kernel
theorem dX3_againstJudgement_1 : decode cX3_againstJudgement 1 = .ok (.getfield 21, 3) := by decide +kernel
theorem dX3_againstJudgement_4 : decode cX3_againstJudgement 4 = .ok (.iload_n 1, 1) := by decide +kernel
theorem dX3_againstJudgement_5 : decode cX3_againstJudgement 5 = .ok (.invokevirtual 99, 3) := by decide +kernel
theorem dX3_againstJudgement_8 : decode cX3_againstJudgement 8 = .ok (.istore_n 3, 1) := by decide +kernel
theorem dX3_againstJudgement_9 : decode cX3_againstJudgement 9 = .ok (.aload_n 0, 1) := by decide +kernel
theorem dX3_againstJudgement_10 : decode cX3_againstJudgement 10 = .ok (.getfield 21, 3) := by decide +kernel
theorem dX3_againstJudgement_13 : decode cX3_againstJudgement 13 = .ok (.iload_n 1, 1) := by decide +kernel
theorem dX3_againstJudgement_14 : decode cX3_againstJudgement 14 = .ok (.invokevirtual 112, 3) := by decide +kernel
theorem dX3_againstJudgement_17 : decode cX3_againstJudgement 17 = .ok (.iconst 2, 1) := by decide +kernel
theorem dX3_againstJudgement_18 : decode cX3_againstJudgement 18 = .ok (.if_icmp .eq 5, 3) := by decide +kernel
theorem dX3_againstJudgement_21 : decode cX3_againstJudgement 21 = .ok (.iconst 1, 1) := by decide +kernel
theorem dX3_againstJudgement_22 : decode cX3_againstJudgement 22 = .ok (.ireturn, 1) := by decide +kernel
theorem dX3_againstJudgement_23 : decode cX3_againstJudgement 23 = .ok (.aload_n 0, 1) := by decide +kernel
theorem dX3_againstJudgement_24 : decode cX3_againstJudgement 24 = .ok (.getfield 12, 3) := by decide +kernel
theorem dX3_againstJudgement_27 : decode cX3_againstJudgement 27 = .ok (.iload_n 3, 1) := by decide +kernel
theorem dX3_againstJudgement_28 : decode cX3_againstJudgement 28 = .ok (.iload_n 2, 1) := by decide +kernel
theorem dX3_againstJudgement_29 : decode cX3_againstJudgement 29 = .ok (.invokevirtual 95, 3) := by decide +kernel
theorem dX3_againstJudgement_32 : decode cX3_againstJudgement 32 = .ok (.ifCond .ne 5, 3) := by decide +kernel
theorem dX3_againstJudgement_35 : decode cX3_againstJudgement 35 = .ok (.iconst 2, 1) := by decide +kernel
theorem dX3_againstJudgement_36 : decode cX3_againstJudgement 36 = .ok (.ireturn, 1) := by decide +kernel
theorem dX3_againstJudgement_37 : decode cX3_againstJudgement 37 = .ok (.aload_n 0, 1) := by decide +kernel
theorem dX3_againstJudgement_38 : decode cX3_againstJudgement 38 = .ok (.getfield 12, 3) := by decide +kernel
theorem dX3_againstJudgement_41 : decode cX3_againstJudgement 41 = .ok (.iload_n 3, 1) := by decide +kernel
theorem dX3_againstJudgement_42 : decode cX3_againstJudgement 42 = .ok (.iload_n 2, 1) := by decide +kernel
theorem dX3_againstJudgement_43 : decode cX3_againstJudgement 43 = .ok (.aload_n 0, 1) := by decide +kernel
theorem dX3_againstJudgement_44 : decode cX3_againstJudgement 44 = .ok (.getfield 21, 3) := by decide +kernel
theorem dX3_againstJudgement_47 : decode cX3_againstJudgement 47 = .ok (.iload_n 1, 1) := by decide +kernel
theorem dX3_againstJudgement_48 : decode cX3_againstJudgement 48 = .ok (.invokevirtual 127, 3) := by decide +kernel
theorem dX3_againstJudgement_51 : decode cX3_againstJudgement 51 = .ok (.invokevirtual 130, 3) := by decide +kernel
theorem dX3_againstJudgement_54 : decode cX3_againstJudgement 54 = .ok (.ifCond .ne 5, 3) := by decide +kernel
theorem dX3_againstJudgement_57 : decode cX3_againstJudgement 57 = .ok (.iconst 3, 1) := by decide +kernel
theorem dX3_againstJudgement_58 : decode cX3_againstJudgement 58 = .ok (.ireturn, 1) := by decide +kernel
theorem dX3_againstJudgement_59 : decode cX3_againstJudgement 59 = .ok (.aload_n 0, 1) := by decide +kernel
theorem dX3_againstJudgement_60 : decode cX3_againstJudgement 60 = .ok (.getfield 12, 3) := by decide +kernel
theorem dX3_againstJudgement_63 : decode cX3_againstJudgement 63 = .ok (.iload_n 3, 1) := by decide +kernel
theorem dX3_againstJudgement_64 : decode cX3_againstJudgement 64 = .ok (.iload_n 2, 1) := by decide +kernel
theorem dX3_againstJudgement_65 : decode cX3_againstJudgement 65 = .ok (.invokevirtual 137, 3) := by decide +kernel
theorem dX3_againstJudgement_68 : decode cX3_againstJudgement 68 = .ok (.aload_n 0, 1) := by decide +kernel
theorem dX3_againstJudgement_69 : decode cX3_againstJudgement 69 = .ok (.getfield 21, 3) := by decide +kernel
theorem dX3_againstJudgement_72 : decode cX3_againstJudgement 72 = .ok (.iload_n 1, 1) := by decide +kernel
theorem dX3_againstJudgement_73 : decode cX3_againstJudgement 73 = .ok (.invokevirtual 155, 3) := by decide +kernel
theorem dX3_againstJudgement_76 : decode cX3_againstJudgement 76 = .ok (.isub, 1) := by decide +kernel
theorem dX3_againstJudgement_77 : decode cX3_againstJudgement 77 = .ok (.istore 4, 2) := by decide +kernel
theorem dX3_againstJudgement_79 : decode cX3_againstJudgement 79 = .ok (.iload 4, 2) := by decide +kernel
theorem dX3_againstJudgement_81 : decode cX3_againstJudgement 81 = .ok (.ifCond .ge 5, 3) := by decide +kernel
theorem dX3_againstJudgement_84 : decode cX3_againstJudgement 84 = .ok (.iconst 4, 1) := by decide +kernel
theorem dX3_againstJudgement_85 : decode cX3_againstJudgement 85 = .ok (.ireturn, 1) := by decide +kernel
theorem dX3_againstJudgement_86 : decode cX3_againstJudgement 86 = .ok (.iload 4, 2) := by decide +kernel
theorem dX3_againstJudgement_88 : decode cX3_againstJudgement 88 = .ok (.aload_n 0, 1) := by decide +kernel
theorem dX3_againstJudgement_89 : decode cX3_againstJudgement 89 = .ok (.iload_n 3, 1) := by decide +kernel
theorem dX3_againstJudgement_90 : decode cX3_againstJudgement 90 = .ok (.invokevirtual 140, 3) := by decide +kernel
theorem dX3_againstJudgement_93 : decode cX3_againstJudgement 93 = .ok (.if_icmp .le 7, 3) := by decide +kernel
theorem dX3_againstJudgement_96 : decode cX3_againstJudgement 96 = .ok (.iconst 5, 1) := by decide +kernel
theorem dX3_againstJudgement_97 : decode cX3_againstJudgement 97 = .ok (.goto 4, 3) := by decide +kernel
theorem dX3_againstJudgement_100 : decode cX3_againstJudgement 100 = .ok (.iconst 0, 1) := by decide +kernel
theorem dX3_againstJudgement_101 : decode cX3_againstJudgement 101 = .ok (.ireturn, 1) := by decide +kernel
theorem dX3_owedTo_0 : decode cX3_owedTo 0 = .ok (.aload_n 0, 1) := by decide +kernel
theorem dX3_owedTo_1 : decode cX3_owedTo 1 = .ok (.getfield 21, 3) := by decide +kernel
theorem dX3_owedTo_4 : decode cX3_owedTo 4 = .ok (.iload_n 1, 1) := by decide +kernel
theorem dX3_owedTo_5 : decode cX3_owedTo 5 = .ok (.invokevirtual 115, 3) := by decide +kernel
theorem dX3_owedTo_8 : decode cX3_owedTo 8 = .ok (.istore_n 2, 1) := by decide +kernel
theorem dX3_owedTo_9 : decode cX3_owedTo 9 = .ok (.aload_n 0, 1) := by decide +kernel
theorem dX3_owedTo_10 : decode cX3_owedTo 10 = .ok (.getfield 28, 3) := by decide +kernel
theorem dX3_owedTo_13 : decode cX3_owedTo 13 = .ok (.iload_n 2, 1) := by decide +kernel
theorem dX3_owedTo_14 : decode cX3_owedTo 14 = .ok (.invokevirtual 86, 3) := by decide +kernel
theorem dX3_owedTo_17 : decode cX3_owedTo 17 = .ok (.ifCond .ne 5, 3) := by decide +kernel
theorem dX3_owedTo_20 : decode cX3_owedTo 20 = .ok (.iconst 0, 1) := by decide +kernel
theorem dX3_owedTo_21 : decode cX3_owedTo 21 = .ok (.ireturn, 1) := by decide +kernel
theorem dX3_owedTo_22 : decode cX3_owedTo 22 = .ok (.aload_n 0, 1) := by decide +kernel
theorem dX3_owedTo_23 : decode cX3_owedTo 23 = .ok (.getfield 12, 3) := by decide +kernel
theorem dX3_owedTo_26 : decode cX3_owedTo 26 = .ok (.aload_n 0, 1) := by decide +kernel
theorem dX3_owedTo_27 : decode cX3_owedTo 27 = .ok (.getfield 21, 3) := by decide +kernel
theorem dX3_owedTo_30 : decode cX3_owedTo 30 = .ok (.iload_n 1, 1) := by decide +kernel
theorem dX3_owedTo_31 : decode cX3_owedTo 31 = .ok (.invokevirtual 99, 3) := by decide +kernel
theorem dX3_owedTo_34 : decode cX3_owedTo 34 = .ok (.aload_n 0, 1) := by decide +kernel
theorem dX3_owedTo_35 : decode cX3_owedTo 35 = .ok (.getfield 28, 3) := by decide +kernel
theorem dX3_owedTo_38 : decode cX3_owedTo 38 = .ok (.iload_n 2, 1) := by decide +kernel
theorem dX3_owedTo_39 : decode cX3_owedTo 39 = .ok (.invokevirtual 92, 3) := by decide +kernel
theorem dX3_owedTo_42 : decode cX3_owedTo 42 = .ok (.invokevirtual 137, 3) := by decide +kernel
theorem dX3_owedTo_45 : decode cX3_owedTo 45 = .ok (.istore_n 3, 1) := by decide +kernel
theorem dX3_owedTo_46 : decode cX3_owedTo 46 = .ok (.iconst 0, 1) := by decide +kernel
theorem dX3_owedTo_47 : decode cX3_owedTo 47 = .ok (.iload_n 3, 1) := by decide +kernel
theorem dX3_owedTo_48 : decode cX3_owedTo 48 = .ok (.aload_n 0, 1) := by decide +kernel
theorem dX3_owedTo_49 : decode cX3_owedTo 49 = .ok (.getfield 21, 3) := by decide +kernel
theorem dX3_owedTo_52 : decode cX3_owedTo 52 = .ok (.iload_n 1, 1) := by decide +kernel
theorem dX3_owedTo_53 : decode cX3_owedTo 53 = .ok (.invokevirtual 155, 3) := by decide +kernel
theorem dX3_owedTo_56 : decode cX3_owedTo 56 = .ok (.isub, 1) := by decide +kernel
theorem dX3_owedTo_57 : decode cX3_owedTo 57 = .ok (.invokestatic 172, 3) := by decide +kernel
theorem dX3_owedTo_60 : decode cX3_owedTo 60 = .ok (.ireturn, 1) := by decide +kernel
theorem dX3_topUp_0 : decode cX3_topUp 0 = .ok (.aload_n 0, 1) := by decide +kernel
theorem dX3_topUp_1 : decode cX3_topUp 1 = .ok (.iload_n 1, 1) := by decide +kernel
theorem dX3_topUp_2 : decode cX3_topUp 2 = .ok (.invokevirtual 177, 3) := by decide +kernel
theorem dX3_topUp_5 : decode cX3_topUp 5 = .ok (.istore_n 2, 1) := by decide +kernel
theorem dX3_topUp_6 : decode cX3_topUp 6 = .ok (.iload_n 2, 1) := by decide +kernel
theorem dX3_topUp_7 : decode cX3_topUp 7 = .ok (.ifCond .eq 19, 3) := by decide +kernel
theorem dX3_topUp_10 : decode cX3_topUp 10 = .ok (.iload_n 2, 1) := by decide +kernel
theorem dX3_topUp_11 : decode cX3_topUp 11 = .ok (.aload_n 0, 1) := by decide +kernel
theorem dX3_topUp_12 : decode cX3_topUp 12 = .ok (.aload_n 0, 1) := by decide +kernel
theorem dX3_topUp_13 : decode cX3_topUp 13 = .ok (.getfield 21, 3) := by decide +kernel
theorem dX3_topUp_16 : decode cX3_topUp 16 = .ok (.iload_n 1, 1) := by decide +kernel
theorem dX3_topUp_17 : decode cX3_topUp 17 = .ok (.invokevirtual 99, 3) := by decide +kernel
theorem dX3_topUp_20 : decode cX3_topUp 20 = .ok (.invokevirtual 140, 3) := by decide +kernel
theorem dX3_topUp_23 : decode cX3_topUp 23 = .ok (.if_icmp .le 5, 3) := by decide +kernel
theorem dX3_topUp_26 : decode cX3_topUp 26 = .ok (.iconst 0, 1) := by decide +kernel
theorem dX3_topUp_27 : decode cX3_topUp 27 = .ok (.ireturn, 1) := by decide +kernel
theorem dX3_topUp_28 : decode cX3_topUp 28 = .ok (.aload_n 0, 1) := by decide +kernel
theorem dX3_topUp_29 : decode cX3_topUp 29 = .ok (.iload_n 1, 1) := by decide +kernel
theorem dX3_topUp_30 : decode cX3_topUp 30 = .ok (.aload_n 0, 1) := by decide +kernel
theorem dX3_topUp_31 : decode cX3_topUp 31 = .ok (.getfield 28, 3) := by decide +kernel
theorem dX3_topUp_34 : decode cX3_topUp 34 = .ok (.aload_n 0, 1) := by decide +kernel
theorem dX3_topUp_35 : decode cX3_topUp 35 = .ok (.getfield 21, 3) := by decide +kernel
theorem dX3_topUp_38 : decode cX3_topUp 38 = .ok (.iload_n 1, 1) := by decide +kernel
theorem dX3_topUp_39 : decode cX3_topUp 39 = .ok (.invokevirtual 115, 3) := by decide +kernel
theorem dX3_topUp_42 : decode cX3_topUp 42 = .ok (.invokevirtual 92, 3) := by decide +kernel
theorem dX3_topUp_45 : decode cX3_topUp 45 = .ok (.invokevirtual 143, 3) := by decide +kernel
theorem dX3_topUp_48 : decode cX3_topUp 48 = .ok (.iload_n 2, 1) := by decide +kernel
theorem dX3_topUp_49 : decode cX3_topUp 49 = .ok (.ireturn, 1) := by decide +kernel
theorem dX3_makeJudgement_0 : decode cX3_makeJudgement 0 = .ok (.aload_n 0, 1) := by decide +kernel
theorem dX3_makeJudgement_1 : decode cX3_makeJudgement 1 = .ok (.iload_n 1, 1) := by decide +kernel
theorem dX3_makeJudgement_2 : decode cX3_makeJudgement 2 = .ok (.iload_n 2, 1) := by decide +kernel
theorem dX3_makeJudgement_3 : decode cX3_makeJudgement 3 = .ok (.invokevirtual 143, 3) := by decide +kernel
theorem dX3_makeJudgement_6 : decode cX3_makeJudgement 6 = .ok (.aload_n 0, 1) := by decide +kernel
theorem dX3_makeJudgement_7 : decode cX3_makeJudgement 7 = .ok (.getfield 21, 3) := by decide +kernel
theorem dX3_makeJudgement_10 : decode cX3_makeJudgement 10 = .ok (.iload_n 1, 1) := by decide +kernel
theorem dX3_makeJudgement_11 : decode cX3_makeJudgement 11 = .ok (.iconst 3, 1) := by decide +kernel
theorem dX3_makeJudgement_12 : decode cX3_makeJudgement 12 = .ok (.invokevirtual 163, 3) := by decide +kernel
theorem dX3_makeJudgement_15 : decode cX3_makeJudgement 15 = .ok (.aload_n 0, 1) := by decide +kernel
theorem dX3_makeJudgement_16 : decode cX3_makeJudgement 16 = .ok (.getfield 21, 3) := by decide +kernel
theorem dX3_makeJudgement_19 : decode cX3_makeJudgement 19 = .ok (.iload_n 1, 1) := by decide +kernel
theorem dX3_makeJudgement_20 : decode cX3_makeJudgement 20 = .ok (.invokevirtual 99, 3) := by decide +kernel
theorem dX3_makeJudgement_23 : decode cX3_makeJudgement 23 = .ok (.istore_n 3, 1) := by decide +kernel
theorem dX3_makeJudgement_24 : decode cX3_makeJudgement 24 = .ok (.aload_n 0, 1) := by decide +kernel
theorem dX3_makeJudgement_25 : decode cX3_makeJudgement 25 = .ok (.getfield 21, 3) := by decide +kernel
theorem dX3_makeJudgement_28 : decode cX3_makeJudgement 28 = .ok (.iload_n 1, 1) := by decide +kernel
theorem dX3_makeJudgement_29 : decode cX3_makeJudgement 29 = .ok (.invokevirtual 115, 3) := by decide +kernel
theorem dX3_makeJudgement_32 : decode cX3_makeJudgement 32 = .ok (.istore 4, 2) := by decide +kernel
theorem dX3_makeJudgement_34 : decode cX3_makeJudgement 34 = .ok (.aload_n 0, 1) := by decide +kernel
theorem dX3_makeJudgement_35 : decode cX3_makeJudgement 35 = .ok (.getfield 12, 3) := by decide +kernel
theorem dX3_makeJudgement_38 : decode cX3_makeJudgement 38 = .ok (.iload_n 3, 1) := by decide +kernel
theorem dX3_makeJudgement_39 : decode cX3_makeJudgement 39 = .ok (.aload_n 0, 1) := by decide +kernel
theorem dX3_makeJudgement_40 : decode cX3_makeJudgement 40 = .ok (.getfield 28, 3) := by decide +kernel
theorem dX3_makeJudgement_43 : decode cX3_makeJudgement 43 = .ok (.iload 4, 2) := by decide +kernel
theorem dX3_makeJudgement_45 : decode cX3_makeJudgement 45 = .ok (.invokevirtual 92, 3) := by decide +kernel
theorem dX3_makeJudgement_48 : decode cX3_makeJudgement 48 = .ok (.invokevirtual 137, 3) := by decide +kernel
theorem dX3_makeJudgement_51 : decode cX3_makeJudgement 51 = .ok (.istore 5, 2) := by decide +kernel
theorem dX3_makeJudgement_53 : decode cX3_makeJudgement 53 = .ok (.iload 4, 2) := by decide +kernel
theorem dX3_makeJudgement_55 : decode cX3_makeJudgement 55 = .ok (.iconst (-1), 1) := by decide +kernel
theorem dX3_makeJudgement_56 : decode cX3_makeJudgement 56 = .ok (.if_icmp .eq 17, 3) := by decide +kernel
theorem dX3_makeJudgement_59 : decode cX3_makeJudgement 59 = .ok (.aload_n 0, 1) := by decide +kernel
theorem dX3_makeJudgement_60 : decode cX3_makeJudgement 60 = .ok (.getfield 12, 3) := by decide +kernel
theorem dX3_makeJudgement_63 : decode cX3_makeJudgement 63 = .ok (.iload_n 3, 1) := by decide +kernel
theorem dX3_makeJudgement_64 : decode cX3_makeJudgement 64 = .ok (.iload_n 2, 1) := by decide +kernel
theorem dX3_makeJudgement_65 : decode cX3_makeJudgement 65 = .ok (.invokevirtual 137, 3) := by decide +kernel
theorem dX3_makeJudgement_68 : decode cX3_makeJudgement 68 = .ok (.iload 5, 2) := by decide +kernel
theorem dX3_makeJudgement_70 : decode cX3_makeJudgement 70 = .ok (.if_icmp .gt 5, 3) := by decide +kernel
theorem dX3_makeJudgement_73 : decode cX3_makeJudgement 73 = .ok (.iconst 0, 1) := by decide +kernel
theorem dX3_makeJudgement_74 : decode cX3_makeJudgement 74 = .ok (.ireturn, 1) := by decide +kernel
theorem dX3_makeJudgement_75 : decode cX3_makeJudgement 75 = .ok (.aload_n 0, 1) := by decide +kernel
theorem dX3_makeJudgement_76 : decode cX3_makeJudgement 76 = .ok (.getfield 28, 3) := by decide +kernel
theorem dX3_makeJudgement_79 : decode cX3_makeJudgement 79 = .ok (.iload 4, 2) := by decide +kernel
theorem dX3_makeJudgement_81 : decode cX3_makeJudgement 81 = .ok (.iload_n 2, 1) := by decide +kernel
theorem dX3_makeJudgement_82 : decode cX3_makeJudgement 82 = .ok (.invokevirtual 166, 3) := by decide +kernel
theorem dX3_makeJudgement_85 : decode cX3_makeJudgement 85 = .ok (.iconst 0, 1) := by decide +kernel
theorem dX3_makeJudgement_86 : decode cX3_makeJudgement 86 = .ok (.istore 6, 2) := by decide +kernel
theorem dX3_makeJudgement_88 : decode cX3_makeJudgement 88 = .ok (.iconst 0, 1) := by decide +kernel
theorem dX3_makeJudgement_89 : decode cX3_makeJudgement 89 = .ok (.istore 7, 2) := by decide +kernel
theorem dX3_makeJudgement_91 : decode cX3_makeJudgement 91 = .ok (.iload 7, 2) := by decide +kernel
theorem dX3_makeJudgement_93 : decode cX3_makeJudgement 93 = .ok (.aload_n 0, 1) := by decide +kernel
theorem dX3_makeJudgement_94 : decode cX3_makeJudgement 94 = .ok (.getfield 21, 3) := by decide +kernel
theorem dX3_makeJudgement_97 : decode cX3_makeJudgement 97 = .ok (.getfield 121, 3) := by decide +kernel
theorem dX3_makeJudgement_100 : decode cX3_makeJudgement 100 = .ok (.if_icmp .ge 35, 3) := by decide +kernel
theorem dX3_makeJudgement_103 : decode cX3_makeJudgement 103 = .ok (.aload_n 0, 1) := by decide +kernel
theorem dX3_makeJudgement_104 : decode cX3_makeJudgement 104 = .ok (.getfield 21, 3) := by decide +kernel
theorem dX3_makeJudgement_107 : decode cX3_makeJudgement 107 = .ok (.iload 7, 2) := by decide +kernel
theorem dX3_makeJudgement_109 : decode cX3_makeJudgement 109 = .ok (.invokevirtual 115, 3) := by decide +kernel
theorem dX3_makeJudgement_112 : decode cX3_makeJudgement 112 = .ok (.iload 4, 2) := by decide +kernel
theorem dX3_makeJudgement_114 : decode cX3_makeJudgement 114 = .ok (.if_icmp .ne 15, 3) := by decide +kernel
theorem dX3_makeJudgement_117 : decode cX3_makeJudgement 117 = .ok (.aload_n 0, 1) := by decide +kernel
theorem dX3_makeJudgement_118 : decode cX3_makeJudgement 118 = .ok (.iload 7, 2) := by decide +kernel
theorem dX3_makeJudgement_120 : decode cX3_makeJudgement 120 = .ok (.invokevirtual 169, 3) := by decide +kernel
theorem dX3_makeJudgement_123 : decode cX3_makeJudgement 123 = .ok (.ifCond .le 6, 3) := by decide +kernel
theorem dX3_makeJudgement_126 : decode cX3_makeJudgement 126 = .ok (.iinc 6 1, 3) := by decide +kernel
theorem dX3_makeJudgement_129 : decode cX3_makeJudgement 129 = .ok (.iinc 7 1, 3) := by decide +kernel
theorem dX3_makeJudgement_132 : decode cX3_makeJudgement 132 = .ok (.goto (-41), 3) := by decide +kernel
theorem dX3_makeJudgement_135 : decode cX3_makeJudgement 135 = .ok (.iload 6, 2) := by decide +kernel
theorem dX3_makeJudgement_137 : decode cX3_makeJudgement 137 = .ok (.ireturn, 1) := by decide +kernel
theorem dX3_turnMonth_0 : decode cX3_turnMonth 0 = .ok (.aload_n 0, 1) := by decide +kernel
theorem dX3_turnMonth_1 : decode cX3_turnMonth 1 = .ok (.dup, 1) := by decide +kernel
theorem dX3_turnMonth_2 : decode cX3_turnMonth 2 = .ok (.getfield 68, 3) := by decide +kernel
theorem dX3_turnMonth_5 : decode cX3_turnMonth 5 = .ok (.iconst 1, 1) := by decide +kernel
theorem dX3_turnMonth_6 : decode cX3_turnMonth 6 = .ok (.iadd, 1) := by decide +kernel
theorem dX3_turnMonth_7 : decode cX3_turnMonth 7 = .ok (.putfield 68, 3) := by decide +kernel
theorem dX3_turnMonth_10 : decode cX3_turnMonth 10 = .ok (.iconst 0, 1) := by decide +kernel
theorem dX3_turnMonth_11 : decode cX3_turnMonth 11 = .ok (.istore_n 1, 1) := by decide +kernel
theorem dX3_turnMonth_12 : decode cX3_turnMonth 12 = .ok (.iload_n 1, 1) := by decide +kernel
theorem dX3_turnMonth_13 : decode cX3_turnMonth 13 = .ok (.iconst 4, 1) := by decide +kernel
theorem dX3_turnMonth_14 : decode cX3_turnMonth 14 = .ok (.if_icmp .ge 43, 3) := by decide +kernel
theorem dX3_turnMonth_17 : decode cX3_turnMonth 17 = .ok (.aload_n 0, 1) := by decide +kernel
theorem dX3_turnMonth_18 : decode cX3_turnMonth 18 = .ok (.getfield 39, 3) := by decide +kernel
theorem dX3_turnMonth_21 : decode cX3_turnMonth 21 = .ok (.iload_n 1, 1) := by decide +kernel
theorem dX3_turnMonth_22 : decode cX3_turnMonth 22 = .ok (.aload_n 0, 1) := by decide +kernel
theorem dX3_turnMonth_23 : decode cX3_turnMonth 23 = .ok (.getfield 36, 3) := by decide +kernel
theorem dX3_turnMonth_26 : decode cX3_turnMonth 26 = .ok (.iload_n 1, 1) := by decide +kernel
theorem dX3_turnMonth_27 : decode cX3_turnMonth 27 = .ok (.iaload, 1) := by decide +kernel
theorem dX3_turnMonth_28 : decode cX3_turnMonth 28 = .ok (.aload_n 0, 1) := by decide +kernel
theorem dX3_turnMonth_29 : decode cX3_turnMonth 29 = .ok (.iload_n 1, 1) := by decide +kernel
theorem dX3_turnMonth_30 : decode cX3_turnMonth 30 = .ok (.invokevirtual 140, 3) := by decide +kernel
theorem dX3_turnMonth_33 : decode cX3_turnMonth 33 = .ok (.aload_n 0, 1) := by decide +kernel
theorem dX3_turnMonth_34 : decode cX3_turnMonth 34 = .ok (.iconst 2, 1) := by decide +kernel
theorem dX3_turnMonth_35 : decode cX3_turnMonth 35 = .ok (.invokevirtual 79, 3) := by decide +kernel
theorem dX3_turnMonth_38 : decode cX3_turnMonth 38 = .ok (.imul, 1) := by decide +kernel
theorem dX3_turnMonth_39 : decode cX3_turnMonth 39 = .ok (.bipush 100, 2) := by decide +kernel
theorem dX3_turnMonth_41 : decode cX3_turnMonth 41 = .ok (.idiv, 1) := by decide +kernel
theorem dX3_turnMonth_42 : decode cX3_turnMonth 42 = .ok (.iadd, 1) := by decide +kernel
theorem dX3_turnMonth_43 : decode cX3_turnMonth 43 = .ok (.iastore, 1) := by decide +kernel
theorem dX3_turnMonth_44 : decode cX3_turnMonth 44 = .ok (.aload_n 0, 1) := by decide +kernel
theorem dX3_turnMonth_45 : decode cX3_turnMonth 45 = .ok (.getfield 42, 3) := by decide +kernel
theorem dX3_turnMonth_48 : decode cX3_turnMonth 48 = .ok (.iload_n 1, 1) := by decide +kernel
theorem dX3_turnMonth_49 : decode cX3_turnMonth 49 = .ok (.iconst 0, 1) := by decide +kernel
theorem dX3_turnMonth_50 : decode cX3_turnMonth 50 = .ok (.iastore, 1) := by decide +kernel
theorem dX3_turnMonth_51 : decode cX3_turnMonth 51 = .ok (.iinc 1 1, 3) := by decide +kernel
theorem dX3_turnMonth_54 : decode cX3_turnMonth 54 = .ok (.goto (-42), 3) := by decide +kernel
theorem dX3_turnMonth_57 : decode cX3_turnMonth 57 = .ok (.iconst 0, 1) := by decide +kernel
theorem dX3_turnMonth_58 : decode cX3_turnMonth 58 = .ok (.istore_n 1, 1) := by decide +kernel
theorem dX3_turnMonth_59 : decode cX3_turnMonth 59 = .ok (.iconst 0, 1) := by decide +kernel
theorem dX3_turnMonth_60 : decode cX3_turnMonth 60 = .ok (.istore_n 2, 1) := by decide +kernel
theorem dX3_turnMonth_61 : decode cX3_turnMonth 61 = .ok (.iload_n 2, 1) := by decide +kernel
theorem dX3_turnMonth_62 : decode cX3_turnMonth 62 = .ok (.aload_n 0, 1) := by decide +kernel
theorem dX3_turnMonth_63 : decode cX3_turnMonth 63 = .ok (.getfield 21, 3) := by decide +kernel
theorem dX3_turnMonth_66 : decode cX3_turnMonth 66 = .ok (.getfield 121, 3) := by decide +kernel
theorem dX3_turnMonth_69 : decode cX3_turnMonth 69 = .ok (.if_icmp .ge 17, 3) := by decide +kernel
theorem dX3_turnMonth_72 : decode cX3_turnMonth 72 = .ok (.iload_n 1, 1) := by decide +kernel
theorem dX3_turnMonth_73 : decode cX3_turnMonth 73 = .ok (.aload_n 0, 1) := by decide +kernel
theorem dX3_turnMonth_74 : decode cX3_turnMonth 74 = .ok (.iload_n 2, 1) := by decide +kernel
theorem dX3_turnMonth_75 : decode cX3_turnMonth 75 = .ok (.invokevirtual 169, 3) := by decide +kernel
theorem dX3_turnMonth_78 : decode cX3_turnMonth 78 = .ok (.iadd, 1) := by decide +kernel
theorem dX3_turnMonth_79 : decode cX3_turnMonth 79 = .ok (.istore_n 1, 1) := by decide +kernel
theorem dX3_turnMonth_80 : decode cX3_turnMonth 80 = .ok (.iinc 2 1, 3) := by decide +kernel
theorem dX3_turnMonth_83 : decode cX3_turnMonth 83 = .ok (.goto (-22), 3) := by decide +kernel
theorem dX3_turnMonth_86 : decode cX3_turnMonth 86 = .ok (.iload_n 1, 1) := by decide +kernel
theorem dX3_turnMonth_87 : decode cX3_turnMonth 87 = .ok (.ireturn, 1) := by decide +kernel
theorem dX3_ofComplaint_0 : decode cX3_ofComplaint 0 = .ok (.iload_n 2, 1) := by decide +kernel
theorem dX3_ofComplaint_1 : decode cX3_ofComplaint 1 = .ok (.tableswitch 142 0 9 #[55, 64, 73, 82, 91, 100, 109, 118, 127, 136], 55) := by decide +kernel
theorem dX3_ofComplaint_56 : decode cX3_ofComplaint 56 = .ok (.aload_n 0, 1) := by decide +kernel
theorem dX3_ofComplaint_57 : decode cX3_ofComplaint 57 = .ok (.getfield 21, 3) := by decide +kernel
theorem dX3_ofComplaint_60 : decode cX3_ofComplaint 60 = .ok (.iload_n 1, 1) := by decide +kernel
theorem dX3_ofComplaint_61 : decode cX3_ofComplaint 61 = .ok (.invokevirtual 99, 3) := by decide +kernel
theorem dX3_ofComplaint_64 : decode cX3_ofComplaint 64 = .ok (.ireturn, 1) := by decide +kernel
theorem dX3_ofComplaint_65 : decode cX3_ofComplaint 65 = .ok (.aload_n 0, 1) := by decide +kernel
theorem dX3_ofComplaint_66 : decode cX3_ofComplaint 66 = .ok (.getfield 21, 3) := by decide +kernel
theorem dX3_ofComplaint_69 : decode cX3_ofComplaint 69 = .ok (.iload_n 1, 1) := by decide +kernel
theorem dX3_ofComplaint_70 : decode cX3_ofComplaint 70 = .ok (.invokevirtual 127, 3) := by decide +kernel
theorem dX3_ofComplaint_73 : decode cX3_ofComplaint 73 = .ok (.ireturn, 1) := by decide +kernel
theorem dX3_ofComplaint_74 : decode cX3_ofComplaint 74 = .ok (.aload_n 0, 1) := by decide +kernel
theorem dX3_ofComplaint_75 : decode cX3_ofComplaint 75 = .ok (.getfield 21, 3) := by decide +kernel
theorem dX3_ofComplaint_78 : decode cX3_ofComplaint 78 = .ok (.iload_n 1, 1) := by decide +kernel
theorem dX3_ofComplaint_79 : decode cX3_ofComplaint 79 = .ok (.invokevirtual 183, 3) := by decide +kernel
theorem dX3_ofComplaint_82 : decode cX3_ofComplaint 82 = .ok (.ireturn, 1) := by decide +kernel
theorem dX3_ofComplaint_83 : decode cX3_ofComplaint 83 = .ok (.aload_n 0, 1) := by decide +kernel
theorem dX3_ofComplaint_84 : decode cX3_ofComplaint 84 = .ok (.getfield 21, 3) := by decide +kernel
theorem dX3_ofComplaint_87 : decode cX3_ofComplaint 87 = .ok (.iload_n 1, 1) := by decide +kernel
theorem dX3_ofComplaint_88 : decode cX3_ofComplaint 88 = .ok (.invokevirtual 102, 3) := by decide +kernel
theorem dX3_ofComplaint_91 : decode cX3_ofComplaint 91 = .ok (.ireturn, 1) := by decide +kernel
theorem dX3_ofComplaint_92 : decode cX3_ofComplaint 92 = .ok (.aload_n 0, 1) := by decide +kernel
theorem dX3_ofComplaint_93 : decode cX3_ofComplaint 93 = .ok (.getfield 21, 3) := by decide +kernel
theorem dX3_ofComplaint_96 : decode cX3_ofComplaint 96 = .ok (.iload_n 1, 1) := by decide +kernel
theorem dX3_ofComplaint_97 : decode cX3_ofComplaint 97 = .ok (.invokevirtual 112, 3) := by decide +kernel
theorem dX3_ofComplaint_100 : decode cX3_ofComplaint 100 = .ok (.ireturn, 1) := by decide +kernel
theorem dX3_ofComplaint_101 : decode cX3_ofComplaint 101 = .ok (.aload_n 0, 1) := by decide +kernel
theorem dX3_ofComplaint_102 : decode cX3_ofComplaint 102 = .ok (.getfield 21, 3) := by decide +kernel
theorem dX3_ofComplaint_105 : decode cX3_ofComplaint 105 = .ok (.iload_n 1, 1) := by decide +kernel
theorem dX3_ofComplaint_106 : decode cX3_ofComplaint 106 = .ok (.invokevirtual 186, 3) := by decide +kernel
theorem dX3_ofComplaint_109 : decode cX3_ofComplaint 109 = .ok (.ireturn, 1) := by decide +kernel
theorem dX3_ofComplaint_110 : decode cX3_ofComplaint 110 = .ok (.aload_n 0, 1) := by decide +kernel
theorem dX3_ofComplaint_111 : decode cX3_ofComplaint 111 = .ok (.getfield 21, 3) := by decide +kernel
theorem dX3_ofComplaint_114 : decode cX3_ofComplaint 114 = .ok (.iload_n 1, 1) := by decide +kernel
theorem dX3_ofComplaint_115 : decode cX3_ofComplaint 115 = .ok (.invokevirtual 155, 3) := by decide +kernel
theorem dX3_ofComplaint_118 : decode cX3_ofComplaint 118 = .ok (.ireturn, 1) := by decide +kernel
theorem dX3_ofComplaint_119 : decode cX3_ofComplaint 119 = .ok (.aload_n 0, 1) := by decide +kernel
theorem dX3_ofComplaint_120 : decode cX3_ofComplaint 120 = .ok (.getfield 21, 3) := by decide +kernel
theorem dX3_ofComplaint_123 : decode cX3_ofComplaint 123 = .ok (.iload_n 1, 1) := by decide +kernel
theorem dX3_ofComplaint_124 : decode cX3_ofComplaint 124 = .ok (.invokevirtual 187, 3) := by decide +kernel
theorem dX3_ofComplaint_127 : decode cX3_ofComplaint 127 = .ok (.ireturn, 1) := by decide +kernel
theorem dX3_ofComplaint_128 : decode cX3_ofComplaint 128 = .ok (.aload_n 0, 1) := by decide +kernel
theorem dX3_ofComplaint_129 : decode cX3_ofComplaint 129 = .ok (.getfield 21, 3) := by decide +kernel
theorem dX3_ofComplaint_132 : decode cX3_ofComplaint 132 = .ok (.iload_n 1, 1) := by decide +kernel
theorem dX3_ofComplaint_133 : decode cX3_ofComplaint 133 = .ok (.invokevirtual 162, 3) := by decide +kernel
theorem dX3_ofComplaint_136 : decode cX3_ofComplaint 136 = .ok (.ireturn, 1) := by decide +kernel
theorem dX3_ofComplaint_137 : decode cX3_ofComplaint 137 = .ok (.aload_n 0, 1) := by decide +kernel
theorem dX3_ofComplaint_138 : decode cX3_ofComplaint 138 = .ok (.iload_n 1, 1) := by decide +kernel
theorem dX3_ofComplaint_139 : decode cX3_ofComplaint 139 = .ok (.invokevirtual 124, 3) := by decide +kernel
theorem dX3_ofComplaint_142 : decode cX3_ofComplaint 142 = .ok (.ireturn, 1) := by decide +kernel
theorem dX3_ofComplaint_143 : decode cX3_ofComplaint 143 = .ok (.aload_n 0, 1) := by decide +kernel
theorem dX3_ofComplaint_144 : decode cX3_ofComplaint 144 = .ok (.iload_n 1, 1) := by decide +kernel
theorem dX3_ofComplaint_145 : decode cX3_ofComplaint 145 = .ok (.invokevirtual 177, 3) := by decide +kernel
theorem dX3_ofComplaint_148 : decode cX3_ofComplaint 148 = .ok (.ireturn, 1) := by decide +kernel
theorem dX3_budgetOf_0 : decode cX3_budgetOf 0 = .ok (.iload_n 1, 1) := by decide +kernel
theorem dX3_budgetOf_1 : decode cX3_budgetOf 1 = .ok (.invokestatic 76, 3) := by decide +kernel
theorem dX3_budgetOf_4 : decode cX3_budgetOf 4 = .ok (.ifCond .eq 12, 3) := by decide +kernel
theorem dX3_budgetOf_7 : decode cX3_budgetOf 7 = .ok (.aload_n 0, 1) := by decide +kernel
theorem dX3_budgetOf_8 : decode cX3_budgetOf 8 = .ok (.getfield 39, 3) := by decide +kernel
theorem dX3_budgetOf_11 : decode cX3_budgetOf 11 = .ok (.iload_n 1, 1) := by decide +kernel
theorem dX3_budgetOf_12 : decode cX3_budgetOf 12 = .ok (.iaload, 1) := by decide +kernel
theorem dX3_budgetOf_13 : decode cX3_budgetOf 13 = .ok (.goto 4, 3) := by decide +kernel
theorem dX3_budgetOf_16 : decode cX3_budgetOf 16 = .ok (.iconst 0, 1) := by decide +kernel
theorem dX3_budgetOf_17 : decode cX3_budgetOf 17 = .ok (.ireturn, 1) := by decide +kernel
theorem dX3_spentOf_0 : decode cX3_spentOf 0 = .ok (.iload_n 1, 1) := by decide +kernel
theorem dX3_spentOf_1 : decode cX3_spentOf 1 = .ok (.invokestatic 76, 3) := by decide +kernel
theorem dX3_spentOf_4 : decode cX3_spentOf 4 = .ok (.ifCond .eq 12, 3) := by decide +kernel
theorem dX3_spentOf_7 : decode cX3_spentOf 7 = .ok (.aload_n 0, 1) := by decide +kernel
theorem dX3_spentOf_8 : decode cX3_spentOf 8 = .ok (.getfield 42, 3) := by decide +kernel
theorem dX3_spentOf_11 : decode cX3_spentOf 11 = .ok (.iload_n 1, 1) := by decide +kernel
theorem dX3_spentOf_12 : decode cX3_spentOf 12 = .ok (.iaload, 1) := by decide +kernel
theorem dX3_spentOf_13 : decode cX3_spentOf 13 = .ok (.goto 4, 3) := by decide +kernel
theorem dX3_spentOf_16 : decode cX3_spentOf 16 = .ok (.iconst 0, 1) := by decide +kernel
theorem dX3_spentOf_17 : decode cX3_spentOf 17 = .ok (.ireturn, 1) := by decide +kernel
theorem dX3_owedInKind_0 : decode cX3_owedInKind 0 = .ok (.iconst 0, 1) := by decide +kernel
theorem dX3_owedInKind_1 : decode cX3_owedInKind 1 = .ok (.istore_n 2, 1) := by decide +kernel
theorem dX3_owedInKind_2 : decode cX3_owedInKind 2 = .ok (.iconst 0, 1) := by decide +kernel
theorem dX3_owedInKind_3 : decode cX3_owedInKind 3 = .ok (.istore_n 3, 1) := by decide +kernel
theorem dX3_owedInKind_4 : decode cX3_owedInKind 4 = .ok (.iload_n 3, 1) := by decide +kernel
theorem dX3_owedInKind_5 : decode cX3_owedInKind 5 = .ok (.aload_n 0, 1) := by decide +kernel
theorem dX3_owedInKind_6 : decode cX3_owedInKind 6 = .ok (.getfield 21, 3) := by decide +kernel
theorem dX3_owedInKind_9 : decode cX3_owedInKind 9 = .ok (.getfield 121, 3) := by decide +kernel
theorem dX3_owedInKind_12 : decode cX3_owedInKind 12 = .ok (.if_icmp .ge 29, 3) := by decide +kernel
theorem dX3_owedInKind_15 : decode cX3_owedInKind 15 = .ok (.aload_n 0, 1) := by decide +kernel
theorem dX3_owedInKind_16 : decode cX3_owedInKind 16 = .ok (.getfield 21, 3) := by decide +kernel
theorem dX3_owedInKind_19 : decode cX3_owedInKind 19 = .ok (.iload_n 3, 1) := by decide +kernel
theorem dX3_owedInKind_20 : decode cX3_owedInKind 20 = .ok (.invokevirtual 99, 3) := by decide +kernel
theorem dX3_owedInKind_23 : decode cX3_owedInKind 23 = .ok (.iload_n 1, 1) := by decide +kernel
theorem dX3_owedInKind_24 : decode cX3_owedInKind 24 = .ok (.if_icmp .ne 11, 3) := by decide +kernel
theorem dX3_owedInKind_27 : decode cX3_owedInKind 27 = .ok (.iload_n 2, 1) := by decide +kernel
theorem dX3_owedInKind_28 : decode cX3_owedInKind 28 = .ok (.aload_n 0, 1) := by decide +kernel
theorem dX3_owedInKind_29 : decode cX3_owedInKind 29 = .ok (.iload_n 3, 1) := by decide +kernel
theorem dX3_owedInKind_30 : decode cX3_owedInKind 30 = .ok (.invokevirtual 177, 3) := by decide +kernel
theorem dX3_owedInKind_33 : decode cX3_owedInKind 33 = .ok (.iadd, 1) := by decide +kernel
theorem dX3_owedInKind_34 : decode cX3_owedInKind 34 = .ok (.istore_n 2, 1) := by decide +kernel
theorem dX3_owedInKind_35 : decode cX3_owedInKind 35 = .ok (.iinc 3 1, 3) := by decide +kernel
theorem dX3_owedInKind_38 : decode cX3_owedInKind 38 = .ok (.goto (-34), 3) := by decide +kernel
theorem dX3_owedInKind_41 : decode cX3_owedInKind 41 = .ok (.iload_n 2, 1) := by decide +kernel
theorem dX3_owedInKind_42 : decode cX3_owedInKind 42 = .ok (.ireturn, 1) := by decide +kernel
theorem dX3_waiting_0 : decode cX3_waiting 0 = .ok (.iconst 0, 1) := by decide +kernel
theorem dX3_waiting_1 : decode cX3_waiting 1 = .ok (.istore_n 1, 1) := by decide +kernel
theorem dX3_waiting_2 : decode cX3_waiting 2 = .ok (.iconst 0, 1) := by decide +kernel
theorem dX3_waiting_3 : decode cX3_waiting 3 = .ok (.istore_n 2, 1) := by decide +kernel
theorem dX3_waiting_4 : decode cX3_waiting 4 = .ok (.iload_n 2, 1) := by decide +kernel
theorem dX3_waiting_5 : decode cX3_waiting 5 = .ok (.aload_n 0, 1) := by decide +kernel
theorem dX3_waiting_6 : decode cX3_waiting 6 = .ok (.getfield 21, 3) := by decide +kernel
theorem dX3_waiting_9 : decode cX3_waiting 9 = .ok (.getfield 121, 3) := by decide +kernel
theorem dX3_waiting_12 : decode cX3_waiting 12 = .ok (.if_icmp .ge 20, 3) := by decide +kernel
theorem dX3_waiting_15 : decode cX3_waiting 15 = .ok (.aload_n 0, 1) := by decide +kernel
theorem dX3_waiting_16 : decode cX3_waiting 16 = .ok (.iload_n 2, 1) := by decide +kernel
theorem dX3_waiting_17 : decode cX3_waiting 17 = .ok (.invokevirtual 177, 3) := by decide +kernel
theorem dX3_waiting_20 : decode cX3_waiting 20 = .ok (.ifCond .le 6, 3) := by decide +kernel
theorem dX3_waiting_23 : decode cX3_waiting 23 = .ok (.iinc 1 1, 3) := by decide +kernel
theorem dX3_waiting_26 : decode cX3_waiting 26 = .ok (.iinc 2 1, 3) := by decide +kernel
theorem dX3_waiting_29 : decode cX3_waiting 29 = .ok (.goto (-25), 3) := by decide +kernel
theorem dX3_waiting_32 : decode cX3_waiting 32 = .ok (.iload_n 1, 1) := by decide +kernel
theorem dX3_waiting_33 : decode cX3_waiting 33 = .ok (.ireturn, 1) := by decide +kernel
theorem dX3_departing_0 : decode cX3_departing 0 = .ok (.iconst 0, 1) := by decide +kernel
theorem dX3_departing_1 : decode cX3_departing 1 = .ok (.istore_n 1, 1) := by decide +kernel
theorem dX3_departing_2 : decode cX3_departing 2 = .ok (.iconst 0, 1) := by decide +kernel
theorem dX3_departing_3 : decode cX3_departing 3 = .ok (.istore_n 2, 1) := by decide +kernel
theorem dX3_departing_4 : decode cX3_departing 4 = .ok (.iload_n 2, 1) := by decide +kernel
theorem dX3_departing_5 : decode cX3_departing 5 = .ok (.aload_n 0, 1) := by decide +kernel
theorem dX3_departing_6 : decode cX3_departing 6 = .ok (.getfield 21, 3) := by decide +kernel
theorem dX3_departing_9 : decode cX3_departing 9 = .ok (.getfield 121, 3) := by decide +kernel
theorem dX3_departing_12 : decode cX3_departing 12 = .ok (.if_icmp .ge 21, 3) := by decide +kernel
theorem dX3_departing_15 : decode cX3_departing 15 = .ok (.aload_n 0, 1) := by decide +kernel
theorem dX3_departing_16 : decode cX3_departing 16 = .ok (.iload_n 2, 1) := by decide +kernel
theorem dX3_departing_17 : decode cX3_departing 17 = .ok (.invokevirtual 124, 3) := by decide +kernel
theorem dX3_departing_20 : decode cX3_departing 20 = .ok (.iconst 3, 1) := by decide +kernel
theorem dX3_departing_21 : decode cX3_departing 21 = .ok (.if_icmp .ne 6, 3) := by decide +kernel
theorem dX3_departing_24 : decode cX3_departing 24 = .ok (.iinc 1 1, 3) := by decide +kernel
theorem dX3_departing_27 : decode cX3_departing 27 = .ok (.iinc 2 1, 3) := by decide +kernel
theorem dX3_departing_30 : decode cX3_departing 30 = .ok (.goto (-26), 3) := by decide +kernel
theorem dX3_departing_33 : decode cX3_departing 33 = .ok (.iload_n 1, 1) := by decide +kernel
theorem dX3_departing_34 : decode cX3_departing 34 = .ok (.ireturn, 1) := by decide +kernel
theorem dX3_owedInAll_0 : decode cX3_owedInAll 0 = .ok (.iconst 0, 1) := by decide +kernel
theorem dX3_owedInAll_1 : decode cX3_owedInAll 1 = .ok (.istore_n 1, 1) := by decide +kernel
theorem dX3_owedInAll_2 : decode cX3_owedInAll 2 = .ok (.iconst 0, 1) := by decide +kernel
theorem dX3_owedInAll_3 : decode cX3_owedInAll 3 = .ok (.istore_n 2, 1) := by decide +kernel
theorem dX3_owedInAll_4 : decode cX3_owedInAll 4 = .ok (.iload_n 2, 1) := by decide +kernel
theorem dX3_owedInAll_5 : decode cX3_owedInAll 5 = .ok (.iconst 4, 1) := by decide +kernel
theorem dX3_owedInAll_6 : decode cX3_owedInAll 6 = .ok (.if_icmp .ge 17, 3) := by decide +kernel
theorem dX3_owedInAll_9 : decode cX3_owedInAll 9 = .ok (.iload_n 1, 1) := by decide +kernel
theorem dX3_owedInAll_10 : decode cX3_owedInAll 10 = .ok (.aload_n 0, 1) := by decide +kernel
theorem dX3_owedInAll_11 : decode cX3_owedInAll 11 = .ok (.iload_n 2, 1) := by decide +kernel
theorem dX3_owedInAll_12 : decode cX3_owedInAll 12 = .ok (.invokevirtual 180, 3) := by decide +kernel
theorem dX3_owedInAll_15 : decode cX3_owedInAll 15 = .ok (.iadd, 1) := by decide +kernel
theorem dX3_owedInAll_16 : decode cX3_owedInAll 16 = .ok (.istore_n 1, 1) := by decide +kernel
theorem dX3_owedInAll_17 : decode cX3_owedInAll 17 = .ok (.iinc 2 1, 3) := by decide +kernel
theorem dX3_owedInAll_20 : decode cX3_owedInAll 20 = .ok (.goto (-16), 3) := by decide +kernel
theorem dX3_owedInAll_23 : decode cX3_owedInAll 23 = .ok (.iload_n 1, 1) := by decide +kernel
theorem dX3_owedInAll_24 : decode cX3_owedInAll 24 = .ok (.ireturn, 1) := by decide +kernel
def f_X3_copyFrom (b : Nat) (b2 : Nat) (x : XS) : Option (XS) :=
    (f_X1_copyFrom b b2 x).bind fun x13 =>
    (f_X0_copyFrom b b2 x13).bind fun x24 =>
    (f_X2_copyFrom b b2 x24).bind fun x35 =>
    (some (cpA x35 (b2 + 22) (b + 22) 3)).bind fun x46 =>
    (some (cpA x46 (b2 + 23) (b + 23) 4)).bind fun x57 =>
    (some (cpA x57 (b2 + 24) (b + 24) 4)).bind fun x68 =>
    (some (cpA x68 (b2 + 25) (b + 25) 4)).bind fun x79 =>
    (some (ux x79 b 7 (x79 b2 7))).bind fun x87 =>
    some x87
set_option maxRecDepth 100000 in
set_option maxHeartbeats 4000000 in
theorem p_X3_copyFrom (l : Launch) (E : TE) {b : Nat} (hB_b : IsB b) {b2 : Nat} (hB_b2 : IsB b2) (x m : XS) (g o : Int64) {xr : XS} (hf : f_X3_copyFrom b b2 x = some xr) : MG l E yX3_copyFrom cX3_copyFrom 2 none 4 [rf E b, rf E b2] (Wd E x m g o) (Wd E xr m g o) none := by
  unfold f_X3_copyFrom at hf
  refine m_in (by decide) (Nat.le_of_ble_eq_true rfl) ?_
  intro p e s mi args below meth c H ls hx hb hr hlk hml hown hB hK hW hS hl
  have hl : lv_has ls 2 [(0, rf E b), (1, rf E b2)] := hl
  refine lv_aload_n hx hb dX3_copyFrom_0 rfl (lv_at hl 1 rfl) ?_
  refine lv_ifnonnull (tgt := 5) hx hb dX3_copyFrom_1 (by decide) ?_
  refine lv_aload_n hx hb dX3_copyFrom_5 rfl (lv_at hl 0 rfl) ?_
  refine gf_X3_12 hx hb hB hK hown hW hB_b dX3_copyFrom_6 ?_
  refine lv_aload_n hx hb dX3_copyFrom_9 rfl (lv_at hl 1 rfl) ?_
  refine gf_X3_12 hx hb hB hK hown hW hB_b2 dX3_copyFrom_10 ?_
  obtain ⟨x13, e13, hf⟩ := ob2 hf
  refine c_V (As := [rf E (b2 + 1)]) (st1 := []) (rest := []) (p_X1_copyFrom l E hB_b hB_b2 x m g o e13) (kc_X3_58 hB ⟨Nat.le_of_ble_eq_true rfl, Nat.le_of_ble_eq_true rfl⟩) (Wd.rec hK hW (hB_b.l8 (j := 1) (by decide)) (cB_1 hB_b) (ci := 1) rfl) hx hb hml hown hB hK hW hS ⟨Nat.le_refl 0, Nat.le_refl 0⟩ rfl hl.1 rfl (Nat.le_of_ble_eq_true rfl) rfl dX3_copyFrom_13 (fun H locs hW hS => ?_)
  refine lv_aload_n hx hb dX3_copyFrom_16 rfl (lv_at hl 0 rfl) ?_
  refine gf_X3_21 hx hb hB hK hown hW hB_b dX3_copyFrom_17 ?_
  refine lv_aload_n hx hb dX3_copyFrom_20 rfl (lv_at hl 1 rfl) ?_
  refine gf_X3_21 hx hb hB hK hown hW hB_b2 dX3_copyFrom_21 ?_
  obtain ⟨x24, e24, hf⟩ := ob2 hf
  refine c_V (As := [rf E (b2 + 7)]) (st1 := []) (rest := []) (p_X0_copyFrom l E hB_b hB_b2 x13 m g o e24) (kc_X3_62 hB ⟨Nat.le_of_ble_eq_true rfl, Nat.le_of_ble_eq_true rfl⟩) (Wd.rec hK hW (hB_b.l8 (j := 7) (by decide)) (cB_7 hB_b) (ci := 0) rfl) hx hb hml hown hB hK hW hS ⟨Nat.le_refl 0, Nat.le_refl 0⟩ rfl hl.1 rfl (Nat.le_of_ble_eq_true rfl) rfl dX3_copyFrom_24 (fun H locs hW hS => ?_)
  refine lv_aload_n hx hb dX3_copyFrom_27 rfl (lv_at hl 0 rfl) ?_
  refine gf_X3_28 hx hb hB hK hown hW hB_b dX3_copyFrom_28 ?_
  refine lv_aload_n hx hb dX3_copyFrom_31 rfl (lv_at hl 1 rfl) ?_
  refine gf_X3_28 hx hb hB hK hown hW hB_b2 dX3_copyFrom_32 ?_
  obtain ⟨x35, e35, hf⟩ := ob2 hf
  refine c_V (As := [rf E (b2 + 17)]) (st1 := []) (rest := []) (p_X2_copyFrom l E hB_b hB_b2 x24 m g o e35) (kc_X3_65 hB ⟨Nat.le_of_ble_eq_true rfl, Nat.le_of_ble_eq_true rfl⟩) (Wd.rec hK hW (hB_b.l8 (j := 17) (by decide)) (cB_17 hB_b) (ci := 2) rfl) hx hb hml hown hB hK hW hS ⟨Nat.le_refl 0, Nat.le_refl 0⟩ rfl hl.1 rfl (Nat.le_of_ble_eq_true rfl) rfl dX3_copyFrom_35 (fun H locs hW hS => ?_)
  refine lv_aload_n hx hb dX3_copyFrom_38 rfl (lv_at hl 1 rfl) ?_
  refine gf_X3_32 hx hb hB hK hown hW hB_b2 dX3_copyFrom_39 ?_
  refine lv_aload_n hx hb dX3_copyFrom_42 rfl (lv_at hl 0 rfl) ?_
  refine gf_X3_32 hx hb hB hK hown hW hB_b dX3_copyFrom_43 ?_
  obtain ⟨x46, e46, hf⟩ := ob hf
  have p46 := p_X4_copyAll l E (k1 := (b2 + 22)) (k2 := (b + 22)) (N := 3) (by decide) (hB_b2.lt (by decide)) (hB_b.lt (by decide)) (m := m) (g := g) (o := o) (fun _ => cB_22 hB_b2) (fun _ => cB_22 hB_b) x35
  rw [← e46] at p46
  refine c_SN (As := [rf E (b2 + 22), rf E (b + 22)]) (st1 := []) (rest := []) (p46) (kc_X3_48 hB hK ⟨Nat.le_of_ble_eq_true rfl, Nat.le_of_ble_eq_true rfl⟩) hx hb hml hown hB hK hW hS ⟨Nat.le_refl 0, Nat.le_refl 0⟩ rfl hl.1 rfl (Nat.le_of_ble_eq_true rfl) rfl dX3_copyFrom_46 (fun H locs hW hS => ?_)
  refine lv_aload_n hx hb dX3_copyFrom_49 rfl (lv_at hl 1 rfl) ?_
  refine gf_X3_36 hx hb hB hK hown hW hB_b2 dX3_copyFrom_50 ?_
  refine lv_aload_n hx hb dX3_copyFrom_53 rfl (lv_at hl 0 rfl) ?_
  refine gf_X3_36 hx hb hB hK hown hW hB_b dX3_copyFrom_54 ?_
  obtain ⟨x57, e57, hf⟩ := ob hf
  have p57 := p_X4_copyAll l E (k1 := (b2 + 23)) (k2 := (b + 23)) (N := 4) (by decide) (hB_b2.lt (by decide)) (hB_b.lt (by decide)) (m := m) (g := g) (o := o) (fun _ => cB_23 hB_b2) (fun _ => cB_23 hB_b) x46
  rw [← e57] at p57
  refine c_SN (As := [rf E (b2 + 23), rf E (b + 23)]) (st1 := []) (rest := []) (p57) (kc_X3_48 hB hK ⟨Nat.le_of_ble_eq_true rfl, Nat.le_of_ble_eq_true rfl⟩) hx hb hml hown hB hK hW hS ⟨Nat.le_refl 0, Nat.le_refl 0⟩ rfl hl.1 rfl (Nat.le_of_ble_eq_true rfl) rfl dX3_copyFrom_57 (fun H locs hW hS => ?_)
  refine lv_aload_n hx hb dX3_copyFrom_60 rfl (lv_at hl 1 rfl) ?_
  refine gf_X3_39 hx hb hB hK hown hW hB_b2 dX3_copyFrom_61 ?_
  refine lv_aload_n hx hb dX3_copyFrom_64 rfl (lv_at hl 0 rfl) ?_
  refine gf_X3_39 hx hb hB hK hown hW hB_b dX3_copyFrom_65 ?_
  obtain ⟨x68, e68, hf⟩ := ob hf
  have p68 := p_X4_copyAll l E (k1 := (b2 + 24)) (k2 := (b + 24)) (N := 4) (by decide) (hB_b2.lt (by decide)) (hB_b.lt (by decide)) (m := m) (g := g) (o := o) (fun _ => cB_24 hB_b2) (fun _ => cB_24 hB_b) x57
  rw [← e68] at p68
  refine c_SN (As := [rf E (b2 + 24), rf E (b + 24)]) (st1 := []) (rest := []) (p68) (kc_X3_48 hB hK ⟨Nat.le_of_ble_eq_true rfl, Nat.le_of_ble_eq_true rfl⟩) hx hb hml hown hB hK hW hS ⟨Nat.le_refl 0, Nat.le_refl 0⟩ rfl hl.1 rfl (Nat.le_of_ble_eq_true rfl) rfl dX3_copyFrom_68 (fun H locs hW hS => ?_)
  refine lv_aload_n hx hb dX3_copyFrom_71 rfl (lv_at hl 1 rfl) ?_
  refine gf_X3_42 hx hb hB hK hown hW hB_b2 dX3_copyFrom_72 ?_
  refine lv_aload_n hx hb dX3_copyFrom_75 rfl (lv_at hl 0 rfl) ?_
  refine gf_X3_42 hx hb hB hK hown hW hB_b dX3_copyFrom_76 ?_
  obtain ⟨x79, e79, hf⟩ := ob hf
  have p79 := p_X4_copyAll l E (k1 := (b2 + 25)) (k2 := (b + 25)) (N := 4) (by decide) (hB_b2.lt (by decide)) (hB_b.lt (by decide)) (m := m) (g := g) (o := o) (fun _ => cB_25 hB_b2) (fun _ => cB_25 hB_b) x68
  rw [← e79] at p79
  refine c_SN (As := [rf E (b2 + 25), rf E (b + 25)]) (st1 := []) (rest := []) (p79) (kc_X3_48 hB hK ⟨Nat.le_of_ble_eq_true rfl, Nat.le_of_ble_eq_true rfl⟩) hx hb hml hown hB hK hW hS ⟨Nat.le_refl 0, Nat.le_refl 0⟩ rfl hl.1 rfl (Nat.le_of_ble_eq_true rfl) rfl dX3_copyFrom_79 (fun H locs hW hS => ?_)
  refine lv_aload_n hx hb dX3_copyFrom_82 rfl (lv_at hl 0 rfl) ?_
  refine lv_aload_n hx hb dX3_copyFrom_83 rfl (lv_at hl 1 rfl) ?_
  refine gf_X3_68 hx hb hB hK hown hW hB_b2 dX3_copyFrom_84 ?_
  obtain ⟨x87, e87, hf⟩ := ob hf
  refine pf_X3_68 hx hb hB hK hown hW hS hB_b e87 dX3_copyFrom_87 (fun H locs hW hS => ?_)
  cases hf
  exact e_v hx hb hr hlk hW hS dX3_copyFrom_90
def f_X3_baseOf (b : Nat) (x : XS) (a0 : Int32) : Option (Int32) :=
    (f_X4_isKind a0).bind fun v1 =>
    if (v1 = 0 : Prop) then
      some 0
    else
      ((aget 4 (x (b + 23)) a0).bind fun v12 =>
      some v12)
set_option maxRecDepth 100000 in
set_option maxHeartbeats 4000000 in
theorem p_X3_baseOf (l : Launch) (E : TE) {b : Nat} (hB_b : IsB b) (x m : XS) (g o : Int64) {a0 : Int32} {r : Int32} (hf : f_X3_baseOf b x a0 = some r) : MG l E yX3_baseOf cX3_baseOf 2 (some .int) 1 [rf E b, .int a0] (Wd E x m g o) (Wd E x m g o) (some (.int r)) := by
  unfold f_X3_baseOf at hf
  refine m_in (by decide) (Nat.le_of_ble_eq_true rfl) ?_
  intro p e s mi args below meth c H ls hx hb hr hlk hml hown hB hK hW hS hl
  have hl : lv_has ls 2 [(0, rf E b), (1, .int a0)] := hl
  refine lv_iload_n hx hb dX3_baseOf_0 rfl (lv_at hl 1 rfl) ?_
  obtain ⟨v1, e1, hf⟩ := ob2 hf
  refine c_SN (As := [.int a0]) (st1 := [.int v1]) (rest := []) (p_X4_isKind l E x m g o e1) (kc_X3_76 hB hK ⟨Nat.le_of_ble_eq_true rfl, Nat.le_of_ble_eq_true rfl⟩) hx hb hml hown hB hK hW hS ⟨Nat.le_refl 0, Nat.le_refl 0⟩ rfl hl.1 rfl (Nat.le_of_ble_eq_true rfl) rfl dX3_baseOf_1 (fun H locs hW hS => ?_)
  refine lv_if_eq (tgt := 16) hx hb dX3_baseOf_4 (by decide) (fun c4 => ?_) (fun c4 => ?_)
  · rw [if_pos c4] at hf
    refine lv_iconst (v := 0) hx hb dX3_baseOf_16 (by decide) ?_
    cases hf
    exact e_i hx hb hr hlk hW hS dX3_baseOf_17
  · rw [if_neg c4] at hf
    refine lv_aload_n hx hb dX3_baseOf_7 rfl (lv_at hl 0 rfl) ?_
    refine gf_X3_36 hx hb hB hK hown hW hB_b dX3_baseOf_8 ?_
    refine lv_iload_n hx hb dX3_baseOf_11 rfl (lv_at hl 1 rfl) ?_
    obtain ⟨v12, e12, hf⟩ := ob2 hf
    refine r_iald hx hb hK hW (hB_b.l8 (by decide)) (cB_23 hB_b) e12 dX3_baseOf_12 ?_
    refine lv_goto (tgt := 17) hx hb dX3_baseOf_13 (by decide) ?_
    cases hf
    exact e_i hx hb hr hlk hW hS dX3_baseOf_17
def f_X3_changeBase (b : Nat) (x : XS) (a0 : Int32) (a1 : Int32) : Option (Int32 × XS) :=
    (f_X3_baseOf b x a0).bind fun v2 =>
    (f_X4_isKind a0).bind fun v7 =>
    if (v7 = 0 : Prop) then
      some (v2, x)
    else
      ((aset x (b + 23) 4 a0 a1).bind fun x19 =>
      some (v2, x19))
set_option maxRecDepth 100000 in
set_option maxHeartbeats 4000000 in
theorem p_X3_changeBase (l : Launch) (E : TE) {b : Nat} (hB_b : IsB b) (x m : XS) (g o : Int64) {a0 : Int32} {a1 : Int32} {r : Int32} {xr : XS} (hf : f_X3_changeBase b x a0 a1 = some (r, xr)) : MG l E yX3_changeBase cX3_changeBase 4 (some .int) 2 [rf E b, .int a0, .int a1] (Wd E x m g o) (Wd E xr m g o) (some (.int r)) := by
  unfold f_X3_changeBase at hf
  refine m_in (by decide) (Nat.le_of_ble_eq_true rfl) ?_
  intro p e s mi args below meth c H ls hx hb hr hlk hml hown hB hK hW hS hl
  have hl : lv_has ls 4 [(0, rf E b), (1, .int a0), (2, .int a1)] := hl
  refine lv_aload_n hx hb dX3_changeBase_0 rfl (lv_at hl 0 rfl) ?_
  refine lv_iload_n hx hb dX3_changeBase_1 rfl (lv_at hl 1 rfl) ?_
  obtain ⟨v2, e2, hf⟩ := ob2 hf
  refine c_V (As := [.int a0]) (st1 := [.int v2]) (rest := []) (p_X3_baseOf l E hB_b x m g o e2) (kc_X3_83 hB ⟨Nat.le_of_ble_eq_true rfl, Nat.le_of_ble_eq_true rfl⟩) (Wd.rec hK hW hB_b.l0 (cB_0 hB_b) (ci := 3) rfl) hx hb hml hown hB hK hW hS ⟨Nat.le_refl 0, Nat.le_refl 0⟩ rfl hl.1 rfl (Nat.le_of_ble_eq_true rfl) rfl dX3_changeBase_2 (fun H locs hW hS => ?_)
  refine lv_istore_n (lv' := [(3, .int v2), (0, rf E b), (1, .int a0), (2, .int a1)]) hx hb dX3_changeBase_5 rfl hl (by decide) rfl (fun ls hl => ?_)
  refine lv_iload_n hx hb dX3_changeBase_6 rfl (lv_at hl 2 rfl) ?_
  obtain ⟨v7, e7, hf⟩ := ob2 hf
  refine c_SN (As := [.int a0]) (st1 := [.int v7]) (rest := []) (p_X4_isKind l E x m g o e7) (kc_X3_76 hB hK ⟨Nat.le_of_ble_eq_true rfl, Nat.le_of_ble_eq_true rfl⟩) hx hb hml hown hB hK hW hS ⟨Nat.le_refl 0, Nat.le_refl 0⟩ rfl hl.1 rfl (Nat.le_of_ble_eq_true rfl) rfl dX3_changeBase_7 (fun H locs hW hS => ?_)
  refine lv_if_eq (tgt := 20) hx hb dX3_changeBase_10 (by decide) (fun c10 => ?_) (fun c10 => ?_)
  · rw [if_pos c10] at hf
    refine lv_iload_n hx hb dX3_changeBase_20 rfl (lv_at hl 0 rfl) ?_
    cases hf
    exact e_i hx hb hr hlk hW hS dX3_changeBase_21
  · rw [if_neg c10] at hf
    refine lv_aload_n hx hb dX3_changeBase_13 rfl (lv_at hl 1 rfl) ?_
    refine gf_X3_36 hx hb hB hK hown hW hB_b dX3_changeBase_14 ?_
    refine lv_iload_n hx hb dX3_changeBase_17 rfl (lv_at hl 2 rfl) ?_
    refine lv_iload_n hx hb dX3_changeBase_18 rfl (lv_at hl 3 rfl) ?_
    obtain ⟨x19, e19, hf⟩ := ob2 hf
    refine r_iastX hx hb hK hW hS (hB_b.lt (by decide)) (fun _ => cB_23 hB_b) e19 dX3_changeBase_19 (fun H locs hW hS => ?_)
    refine lv_iload_n hx hb dX3_changeBase_20 rfl (lv_at hl 0 rfl) ?_
    cases hf
    exact e_i hx hb hr hlk hW hS dX3_changeBase_21
def f_X3_settingOf (b : Nat) (x : XS) (a0 : Int32) : Option (Int32) :=
    (f_X4_isSetting a0).bind fun v1 =>
    if (v1 = 0 : Prop) then
      some (-1)
    else
      ((aget 3 (x (b + 22)) a0).bind fun v12 =>
      some v12)
set_option maxRecDepth 100000 in
set_option maxHeartbeats 4000000 in
theorem p_X3_settingOf (l : Launch) (E : TE) {b : Nat} (hB_b : IsB b) (x m : XS) (g o : Int64) {a0 : Int32} {r : Int32} (hf : f_X3_settingOf b x a0 = some r) : MG l E yX3_settingOf cX3_settingOf 2 (some .int) 1 [rf E b, .int a0] (Wd E x m g o) (Wd E x m g o) (some (.int r)) := by
  unfold f_X3_settingOf at hf
  refine m_in (by decide) (Nat.le_of_ble_eq_true rfl) ?_
  intro p e s mi args below meth c H ls hx hb hr hlk hml hown hB hK hW hS hl
  have hl : lv_has ls 2 [(0, rf E b), (1, .int a0)] := hl
  refine lv_iload_n hx hb dX3_settingOf_0 rfl (lv_at hl 1 rfl) ?_
  obtain ⟨v1, e1, hf⟩ := ob2 hf
  refine c_SN (As := [.int a0]) (st1 := [.int v1]) (rest := []) (p_X4_isSetting l E x m g o e1) (kc_X3_72 hB hK ⟨Nat.le_of_ble_eq_true rfl, Nat.le_of_ble_eq_true rfl⟩) hx hb hml hown hB hK hW hS ⟨Nat.le_refl 0, Nat.le_refl 0⟩ rfl hl.1 rfl (Nat.le_of_ble_eq_true rfl) rfl dX3_settingOf_1 (fun H locs hW hS => ?_)
  refine lv_if_eq (tgt := 16) hx hb dX3_settingOf_4 (by decide) (fun c4 => ?_) (fun c4 => ?_)
  · rw [if_pos c4] at hf
    refine lv_iconst (v := (-1)) hx hb dX3_settingOf_16 (by decide) ?_
    cases hf
    exact e_i hx hb hr hlk hW hS dX3_settingOf_17
  · rw [if_neg c4] at hf
    refine lv_aload_n hx hb dX3_settingOf_7 rfl (lv_at hl 0 rfl) ?_
    refine gf_X3_32 hx hb hB hK hown hW hB_b dX3_settingOf_8 ?_
    refine lv_iload_n hx hb dX3_settingOf_11 rfl (lv_at hl 1 rfl) ?_
    obtain ⟨v12, e12, hf⟩ := ob2 hf
    refine r_iald hx hb hK hW (hB_b.l8 (by decide)) (cB_22 hB_b) e12 dX3_settingOf_12 ?_
    refine lv_goto (tgt := 17) hx hb dX3_settingOf_13 (by decide) ?_
    cases hf
    exact e_i hx hb hr hlk hW hS dX3_settingOf_17
def f_X3_changeSetting (b : Nat) (x : XS) (a0 : Int32) (a1 : Int32) : Option (Int32 × XS) :=
    (f_X3_settingOf b x a0).bind fun v2 =>
    (f_X4_isSetting a0).bind fun v7 =>
    if (v7 = 0 : Prop) then
      some (v2, x)
    else
      ((aset x (b + 22) 3 a0 a1).bind fun x19 =>
      some (v2, x19))
set_option maxRecDepth 100000 in
set_option maxHeartbeats 4000000 in
theorem p_X3_changeSetting (l : Launch) (E : TE) {b : Nat} (hB_b : IsB b) (x m : XS) (g o : Int64) {a0 : Int32} {a1 : Int32} {r : Int32} {xr : XS} (hf : f_X3_changeSetting b x a0 a1 = some (r, xr)) : MG l E yX3_changeSetting cX3_changeSetting 4 (some .int) 2 [rf E b, .int a0, .int a1] (Wd E x m g o) (Wd E xr m g o) (some (.int r)) := by
  unfold f_X3_changeSetting at hf
  refine m_in (by decide) (Nat.le_of_ble_eq_true rfl) ?_
  intro p e s mi args below meth c H ls hx hb hr hlk hml hown hB hK hW hS hl
  have hl : lv_has ls 4 [(0, rf E b), (1, .int a0), (2, .int a1)] := hl
  refine lv_aload_n hx hb dX3_changeSetting_0 rfl (lv_at hl 0 rfl) ?_
  refine lv_iload_n hx hb dX3_changeSetting_1 rfl (lv_at hl 1 rfl) ?_
  obtain ⟨v2, e2, hf⟩ := ob2 hf
  refine c_V (As := [.int a0]) (st1 := [.int v2]) (rest := []) (p_X3_settingOf l E hB_b x m g o e2) (kc_X3_79 hB ⟨Nat.le_of_ble_eq_true rfl, Nat.le_of_ble_eq_true rfl⟩) (Wd.rec hK hW hB_b.l0 (cB_0 hB_b) (ci := 3) rfl) hx hb hml hown hB hK hW hS ⟨Nat.le_refl 0, Nat.le_refl 0⟩ rfl hl.1 rfl (Nat.le_of_ble_eq_true rfl) rfl dX3_changeSetting_2 (fun H locs hW hS => ?_)
  refine lv_istore_n (lv' := [(3, .int v2), (0, rf E b), (1, .int a0), (2, .int a1)]) hx hb dX3_changeSetting_5 rfl hl (by decide) rfl (fun ls hl => ?_)
  refine lv_iload_n hx hb dX3_changeSetting_6 rfl (lv_at hl 2 rfl) ?_
  obtain ⟨v7, e7, hf⟩ := ob2 hf
  refine c_SN (As := [.int a0]) (st1 := [.int v7]) (rest := []) (p_X4_isSetting l E x m g o e7) (kc_X3_72 hB hK ⟨Nat.le_of_ble_eq_true rfl, Nat.le_of_ble_eq_true rfl⟩) hx hb hml hown hB hK hW hS ⟨Nat.le_refl 0, Nat.le_refl 0⟩ rfl hl.1 rfl (Nat.le_of_ble_eq_true rfl) rfl dX3_changeSetting_7 (fun H locs hW hS => ?_)
  refine lv_if_eq (tgt := 20) hx hb dX3_changeSetting_10 (by decide) (fun c10 => ?_) (fun c10 => ?_)
  · rw [if_pos c10] at hf
    refine lv_iload_n hx hb dX3_changeSetting_20 rfl (lv_at hl 0 rfl) ?_
    cases hf
    exact e_i hx hb hr hlk hW hS dX3_changeSetting_21
  · rw [if_neg c10] at hf
    refine lv_aload_n hx hb dX3_changeSetting_13 rfl (lv_at hl 1 rfl) ?_
    refine gf_X3_32 hx hb hB hK hown hW hB_b dX3_changeSetting_14 ?_
    refine lv_iload_n hx hb dX3_changeSetting_17 rfl (lv_at hl 2 rfl) ?_
    refine lv_iload_n hx hb dX3_changeSetting_18 rfl (lv_at hl 3 rfl) ?_
    obtain ⟨x19, e19, hf⟩ := ob2 hf
    refine r_iastX hx hb hK hW hS (hB_b.lt (by decide)) (fun _ => cB_22 hB_b) e19 dX3_changeSetting_19 (fun H locs hW hS => ?_)
    refine lv_iload_n hx hb dX3_changeSetting_20 rfl (lv_at hl 0 rfl) ?_
    cases hf
    exact e_i hx hb hr hlk hW hS dX3_changeSetting_21
def f_X3_isBinding (b : Nat) (x : XS) (a0 : Int32) (a1 : Int32) : Option (Int32) :=
    (f_X2_has b x a1).bind fun v5 =>
    if (v5 = 0 : Prop) then
      some 0
    else
      ((f_X2_monthOf b x a1).bind fun v20 =>
      (f_X3_settingOf b x 0).bind fun v26 =>
      if (v26 ≤ ((x b 7) - v20) : Prop) then
        some 0
      else
        ((f_X2_amendsOf b x a1).bind fun v42 =>
        (f_X1_isOffered b x a0 v42).bind fun v45 =>
        if (v45 = 0 : Prop) then
          some 0
        else
          some 1))
set_option maxRecDepth 100000 in
set_option maxHeartbeats 4000000 in
theorem p_X3_isBinding (l : Launch) (E : TE) {b : Nat} (hB_b : IsB b) (x m : XS) (g o : Int64) {a0 : Int32} {a1 : Int32} {r : Int32} (hf : f_X3_isBinding b x a0 a1 = some r) : MG l E yX3_isBinding cX3_isBinding 3 (some .boolean) 3 [rf E b, .int a0, .int a1] (Wd E x m g o) (Wd E x m g o) (some (.int r)) := by
  unfold f_X3_isBinding at hf
  refine m_in (by decide) (Nat.le_of_ble_eq_true rfl) ?_
  intro p e s mi args below meth c H ls hx hb hr hlk hml hown hB hK hW hS hl
  have hl : lv_has ls 3 [(0, rf E b), (1, .int a0), (2, .int a1)] := hl
  refine lv_aload_n hx hb dX3_isBinding_0 rfl (lv_at hl 0 rfl) ?_
  refine gf_X3_28 hx hb hB hK hown hW hB_b dX3_isBinding_1 ?_
  refine lv_iload_n hx hb dX3_isBinding_4 rfl (lv_at hl 2 rfl) ?_
  obtain ⟨v5, e5, hf⟩ := ob2 hf
  refine c_V (As := [.int a1]) (st1 := [.int v5]) (rest := []) (p_X2_has l E hB_b x m g o e5) (kc_X3_86 hB ⟨Nat.le_of_ble_eq_true rfl, Nat.le_of_ble_eq_true rfl⟩) (Wd.rec hK hW (hB_b.l8 (j := 17) (by decide)) (cB_17 hB_b) (ci := 2) rfl) hx hb hml hown hB hK hW hS ⟨Nat.le_refl 0, Nat.le_refl 0⟩ rfl hl.1 rfl (Nat.le_of_ble_eq_true rfl) rfl dX3_isBinding_5 (fun H locs hW hS => ?_)
  refine lv_if_eq (tgt := 55) hx hb dX3_isBinding_8 (by decide) (fun c8 => ?_) (fun c8 => ?_)
  · rw [if_pos c8] at hf
    refine lv_iconst (v := 0) hx hb dX3_isBinding_55 (by decide) ?_
    cases hf
    exact e_z hx hb hr hlk (Or.inl rfl) hW hS dX3_isBinding_56
  · rw [if_neg c8] at hf
    refine lv_aload_n hx hb dX3_isBinding_11 rfl (lv_at hl 0 rfl) ?_
    refine gf_X3_68 hx hb hB hK hown hW hB_b dX3_isBinding_12 ?_
    refine lv_aload_n hx hb dX3_isBinding_15 rfl (lv_at hl 0 rfl) ?_
    refine gf_X3_28 hx hb hB hK hown hW hB_b dX3_isBinding_16 ?_
    refine lv_iload_n hx hb dX3_isBinding_19 rfl (lv_at hl 2 rfl) ?_
    obtain ⟨v20, e20, hf⟩ := ob2 hf
    refine c_V (As := [.int a1]) (st1 := [.int v20, .int (x b 7)]) (rest := [.int (x b 7)]) (p_X2_monthOf l E hB_b x m g o e20) (kc_X3_89 hB ⟨Nat.le_of_ble_eq_true rfl, Nat.le_of_ble_eq_true rfl⟩) (Wd.rec hK hW (hB_b.l8 (j := 17) (by decide)) (cB_17 hB_b) (ci := 2) rfl) hx hb hml hown hB hK hW hS ⟨Nat.le_refl 0, Nat.le_refl 0⟩ rfl hl.1 rfl (Nat.le_of_ble_eq_true rfl) rfl dX3_isBinding_20 (fun H locs hW hS => ?_)
    refine lv_isub hx hb dX3_isBinding_23 ?_
    refine lv_aload_n hx hb dX3_isBinding_24 rfl (lv_at hl 0 rfl) ?_
    refine lv_iconst (v := 0) hx hb dX3_isBinding_25 (by decide) ?_
    obtain ⟨v26, e26, hf⟩ := ob2 hf
    refine c_V (As := [.int 0]) (st1 := [.int v26, .int ((x b 7) - v20)]) (rest := [.int ((x b 7) - v20)]) (p_X3_settingOf l E hB_b x m g o e26) (kc_X3_79 hB ⟨Nat.le_of_ble_eq_true rfl, Nat.le_of_ble_eq_true rfl⟩) (Wd.rec hK hW hB_b.l0 (cB_0 hB_b) (ci := 3) rfl) hx hb hml hown hB hK hW hS ⟨Nat.le_refl 0, Nat.le_refl 0⟩ rfl hl.1 rfl (Nat.le_of_ble_eq_true rfl) rfl dX3_isBinding_26 (fun H locs hW hS => ?_)
    refine lv_icmp_ge (tgt := 55) hx hb dX3_isBinding_29 (by decide) (fun c29 => ?_) (fun c29 => ?_)
    · rw [if_pos c29] at hf
      refine lv_iconst (v := 0) hx hb dX3_isBinding_55 (by decide) ?_
      cases hf
      exact e_z hx hb hr hlk (Or.inl rfl) hW hS dX3_isBinding_56
    · rw [if_neg c29] at hf
      refine lv_aload_n hx hb dX3_isBinding_32 rfl (lv_at hl 0 rfl) ?_
      refine gf_X3_12 hx hb hB hK hown hW hB_b dX3_isBinding_33 ?_
      refine lv_iload_n hx hb dX3_isBinding_36 rfl (lv_at hl 1 rfl) ?_
      refine lv_aload_n hx hb dX3_isBinding_37 rfl (lv_at hl 0 rfl) ?_
      refine gf_X3_28 hx hb hB hK hown hW hB_b dX3_isBinding_38 ?_
      refine lv_iload_n hx hb dX3_isBinding_41 rfl (lv_at hl 2 rfl) ?_
      obtain ⟨v42, e42, hf⟩ := ob2 hf
      refine c_V (As := [.int a1]) (st1 := [.int v42, .int a0, rf E (b + 1)]) (rest := [.int a0, rf E (b + 1)]) (p_X2_amendsOf l E hB_b x m g o e42) (kc_X3_92 hB ⟨Nat.le_of_ble_eq_true rfl, Nat.le_of_ble_eq_true rfl⟩) (Wd.rec hK hW (hB_b.l8 (j := 17) (by decide)) (cB_17 hB_b) (ci := 2) rfl) hx hb hml hown hB hK hW hS ⟨Nat.le_refl 0, Nat.le_refl 0⟩ rfl hl.1 rfl (Nat.le_of_ble_eq_true rfl) rfl dX3_isBinding_42 (fun H locs hW hS => ?_)
      obtain ⟨v45, e45, hf⟩ := ob2 hf
      refine c_V (As := [.int a0, .int v42]) (st1 := [.int v45]) (rest := []) (p_X1_isOffered l E hB_b x m g o e45) (kc_X3_95 hB ⟨Nat.le_of_ble_eq_true rfl, Nat.le_of_ble_eq_true rfl⟩) (Wd.rec hK hW (hB_b.l8 (j := 1) (by decide)) (cB_1 hB_b) (ci := 1) rfl) hx hb hml hown hB hK hW hS ⟨Nat.le_refl 0, Nat.le_refl 0⟩ rfl hl.1 rfl (Nat.le_of_ble_eq_true rfl) rfl dX3_isBinding_45 (fun H locs hW hS => ?_)
      refine lv_if_eq (tgt := 55) hx hb dX3_isBinding_48 (by decide) (fun c48 => ?_) (fun c48 => ?_)
      · rw [if_pos c48] at hf
        refine lv_iconst (v := 0) hx hb dX3_isBinding_55 (by decide) ?_
        cases hf
        exact e_z hx hb hr hlk (Or.inl rfl) hW hS dX3_isBinding_56
      · rw [if_neg c48] at hf
        refine lv_iconst (v := 1) hx hb dX3_isBinding_51 (by decide) ?_
        refine lv_goto (tgt := 56) hx hb dX3_isBinding_52 (by decide) ?_
        cases hf
        exact e_z hx hb hr hlk (Or.inr rfl) hW hS dX3_isBinding_56
def f_X3_bindingFor (b : Nat) (x : XS) (a0 : Int32) : Option (Int32) :=
    (f_X0_kindOf b x a0).bind fun v5 =>
    (f_X0_groupOf b x a0).bind fun v19 =>
    (f_X2_latestOf b x v5 v19).bind fun v22 =>
    (f_X3_isBinding b x v5 v22).bind fun v29 =>
    if (v29 = 0 : Prop) then
      some (-1)
    else
      some v22
set_option maxRecDepth 100000 in
set_option maxHeartbeats 4000000 in
theorem p_X3_bindingFor (l : Launch) (E : TE) {b : Nat} (hB_b : IsB b) (x m : XS) (g o : Int64) {a0 : Int32} {r : Int32} (hf : f_X3_bindingFor b x a0 = some r) : MG l E yX3_bindingFor cX3_bindingFor 4 (some .int) 4 [rf E b, .int a0] (Wd E x m g o) (Wd E x m g o) (some (.int r)) := by
  unfold f_X3_bindingFor at hf
  refine m_in (by decide) (Nat.le_of_ble_eq_true rfl) ?_
  intro p e s mi args below meth c H ls hx hb hr hlk hml hown hB hK hW hS hl
  have hl : lv_has ls 4 [(0, rf E b), (1, .int a0)] := hl
  refine lv_aload_n hx hb dX3_bindingFor_0 rfl (lv_at hl 0 rfl) ?_
  refine gf_X3_21 hx hb hB hK hown hW hB_b dX3_bindingFor_1 ?_
  refine lv_iload_n hx hb dX3_bindingFor_4 rfl (lv_at hl 1 rfl) ?_
  obtain ⟨v5, e5, hf⟩ := ob2 hf
  refine c_V (As := [.int a0]) (st1 := [.int v5]) (rest := []) (p_X0_kindOf l E hB_b x m g o e5) (kc_X3_99 hB ⟨Nat.le_of_ble_eq_true rfl, Nat.le_of_ble_eq_true rfl⟩) (Wd.rec hK hW (hB_b.l8 (j := 7) (by decide)) (cB_7 hB_b) (ci := 0) rfl) hx hb hml hown hB hK hW hS ⟨Nat.le_refl 0, Nat.le_refl 0⟩ rfl hl.1 rfl (Nat.le_of_ble_eq_true rfl) rfl dX3_bindingFor_5 (fun H locs hW hS => ?_)
  refine lv_istore_n (lv' := [(2, .int v5), (0, rf E b), (1, .int a0)]) hx hb dX3_bindingFor_8 rfl hl (by decide) rfl (fun ls hl => ?_)
  refine lv_aload_n hx hb dX3_bindingFor_9 rfl (lv_at hl 1 rfl) ?_
  refine gf_X3_28 hx hb hB hK hown hW hB_b dX3_bindingFor_10 ?_
  refine lv_iload_n hx hb dX3_bindingFor_13 rfl (lv_at hl 0 rfl) ?_
  refine lv_aload_n hx hb dX3_bindingFor_14 rfl (lv_at hl 1 rfl) ?_
  refine gf_X3_21 hx hb hB hK hown hW hB_b dX3_bindingFor_15 ?_
  refine lv_iload_n hx hb dX3_bindingFor_18 rfl (lv_at hl 2 rfl) ?_
  obtain ⟨v19, e19, hf⟩ := ob2 hf
  refine c_V (As := [.int a0]) (st1 := [.int v19, .int v5, rf E (b + 17)]) (rest := [.int v5, rf E (b + 17)]) (p_X0_groupOf l E hB_b x m g o e19) (kc_X3_102 hB ⟨Nat.le_of_ble_eq_true rfl, Nat.le_of_ble_eq_true rfl⟩) (Wd.rec hK hW (hB_b.l8 (j := 7) (by decide)) (cB_7 hB_b) (ci := 0) rfl) hx hb hml hown hB hK hW hS ⟨Nat.le_refl 0, Nat.le_refl 0⟩ rfl hl.1 rfl (Nat.le_of_ble_eq_true rfl) rfl dX3_bindingFor_19 (fun H locs hW hS => ?_)
  obtain ⟨v22, e22, hf⟩ := ob2 hf
  refine c_V (As := [.int v5, .int v19]) (st1 := [.int v22]) (rest := []) (p_X2_latestOf l E hB_b x m g o e22) (kc_X3_105 hB ⟨Nat.le_of_ble_eq_true rfl, Nat.le_of_ble_eq_true rfl⟩) (Wd.rec hK hW (hB_b.l8 (j := 17) (by decide)) (cB_17 hB_b) (ci := 2) rfl) hx hb hml hown hB hK hW hS ⟨Nat.le_refl 0, Nat.le_refl 0⟩ rfl hl.1 rfl (Nat.le_of_ble_eq_true rfl) rfl dX3_bindingFor_22 (fun H locs hW hS => ?_)
  refine lv_istore_n (lv' := [(3, .int v22), (2, .int v5), (0, rf E b), (1, .int a0)]) hx hb dX3_bindingFor_25 rfl hl (by decide) rfl (fun ls hl => ?_)
  refine lv_aload_n hx hb dX3_bindingFor_26 rfl (lv_at hl 2 rfl) ?_
  refine lv_iload_n hx hb dX3_bindingFor_27 rfl (lv_at hl 1 rfl) ?_
  refine lv_iload_n hx hb dX3_bindingFor_28 rfl (lv_at hl 0 rfl) ?_
  obtain ⟨v29, e29, hf⟩ := ob2 hf
  refine c_V (As := [.int v5, .int v22]) (st1 := [.int v29]) (rest := []) (p_X3_isBinding l E hB_b x m g o e29) (kc_X3_109 hB ⟨Nat.le_of_ble_eq_true rfl, Nat.le_of_ble_eq_true rfl⟩) (Wd.rec hK hW hB_b.l0 (cB_0 hB_b) (ci := 3) rfl) hx hb hml hown hB hK hW hS ⟨Nat.le_refl 0, Nat.le_refl 0⟩ rfl hl.1 rfl (Nat.le_of_ble_eq_true rfl) rfl dX3_bindingFor_29 (fun H locs hW hS => ?_)
  refine lv_if_eq (tgt := 39) hx hb dX3_bindingFor_32 (by decide) (fun c32 => ?_) (fun c32 => ?_)
  · rw [if_pos c32] at hf
    refine lv_iconst (v := (-1)) hx hb dX3_bindingFor_39 (by decide) ?_
    cases hf
    exact e_i hx hb hr hlk hW hS dX3_bindingFor_40
  · rw [if_neg c32] at hf
    refine lv_iload_n hx hb dX3_bindingFor_35 rfl (lv_at hl 0 rfl) ?_
    refine lv_goto (tgt := 40) hx hb dX3_bindingFor_36 (by decide) ?_
    cases hf
    exact e_i hx hb hr hlk hW hS dX3_bindingFor_40
def f_X3_leftOf (b : Nat) (x : XS) (a0 : Int32) : Option (Int32) :=
    (f_X4_isKind a0).bind fun v1 =>
    if (v1 = 0 : Prop) then
      some 0
    else
      ((aget 4 (x (b + 24)) a0).bind fun v12 =>
      (aget 4 (x (b + 25)) a0).bind fun v18 =>
      some (v12 - v18))
set_option maxRecDepth 100000 in
set_option maxHeartbeats 4000000 in
theorem p_X3_leftOf (l : Launch) (E : TE) {b : Nat} (hB_b : IsB b) (x m : XS) (g o : Int64) {a0 : Int32} {r : Int32} (hf : f_X3_leftOf b x a0 = some r) : MG l E yX3_leftOf cX3_leftOf 2 (some .int) 1 [rf E b, .int a0] (Wd E x m g o) (Wd E x m g o) (some (.int r)) := by
  unfold f_X3_leftOf at hf
  refine m_in (by decide) (Nat.le_of_ble_eq_true rfl) ?_
  intro p e s mi args below meth c H ls hx hb hr hlk hml hown hB hK hW hS hl
  have hl : lv_has ls 2 [(0, rf E b), (1, .int a0)] := hl
  refine lv_iload_n hx hb dX3_leftOf_0 rfl (lv_at hl 1 rfl) ?_
  obtain ⟨v1, e1, hf⟩ := ob2 hf
  refine c_SN (As := [.int a0]) (st1 := [.int v1]) (rest := []) (p_X4_isKind l E x m g o e1) (kc_X3_76 hB hK ⟨Nat.le_of_ble_eq_true rfl, Nat.le_of_ble_eq_true rfl⟩) hx hb hml hown hB hK hW hS ⟨Nat.le_refl 0, Nat.le_refl 0⟩ rfl hl.1 rfl (Nat.le_of_ble_eq_true rfl) rfl dX3_leftOf_1 (fun H locs hW hS => ?_)
  refine lv_if_eq (tgt := 23) hx hb dX3_leftOf_4 (by decide) (fun c4 => ?_) (fun c4 => ?_)
  · rw [if_pos c4] at hf
    refine lv_iconst (v := 0) hx hb dX3_leftOf_23 (by decide) ?_
    cases hf
    exact e_i hx hb hr hlk hW hS dX3_leftOf_24
  · rw [if_neg c4] at hf
    refine lv_aload_n hx hb dX3_leftOf_7 rfl (lv_at hl 0 rfl) ?_
    refine gf_X3_39 hx hb hB hK hown hW hB_b dX3_leftOf_8 ?_
    refine lv_iload_n hx hb dX3_leftOf_11 rfl (lv_at hl 1 rfl) ?_
    obtain ⟨v12, e12, hf⟩ := ob2 hf
    refine r_iald hx hb hK hW (hB_b.l8 (by decide)) (cB_24 hB_b) e12 dX3_leftOf_12 ?_
    refine lv_aload_n hx hb dX3_leftOf_13 rfl (lv_at hl 0 rfl) ?_
    refine gf_X3_42 hx hb hB hK hown hW hB_b dX3_leftOf_14 ?_
    refine lv_iload_n hx hb dX3_leftOf_17 rfl (lv_at hl 1 rfl) ?_
    obtain ⟨v18, e18, hf⟩ := ob2 hf
    refine r_iald hx hb hK hW (hB_b.l8 (by decide)) (cB_25 hB_b) e18 dX3_leftOf_18 ?_
    refine lv_isub hx hb dX3_leftOf_19 ?_
    refine lv_goto (tgt := 24) hx hb dX3_leftOf_20 (by decide) ?_
    cases hf
    exact e_i hx hb hr hlk hW hS dX3_leftOf_24
def f_X3_againstDecision_93 (b : Nat) (x : XS) (l2_93 : Int32) (l4_93 : Int32) : Option (Int32) :=
    (f_X1_costOf b x l4_93 l2_93).bind fun v100 =>
    (f_X3_leftOf b x l4_93).bind fun v106 =>
    if (v100 ≤ v106 : Prop) then
      some 0
    else
      some 5
def f_X3_againstDecision (b : Nat) (x : XS) (a0 : Int32) (a1 : Int32) (a2 : Int32) : Option (Int32) :=
    (f_X0_kindOf b x a0).bind fun v5 =>
    (f_X0_stageOf b x a0).bind fun v15 =>
    if (v15 = 0 : Prop) then
      ((f_X1_isOffered b x v5 a1).bind fun v30 =>
      if (v30 = 0 : Prop) then
        some 2
      else
        ((f_X0_severityOf b x a0).bind fun v50 =>
        (f_X1_covers b x v5 a1 v50).bind fun v53 =>
        if (v53 = 0 : Prop) then
          some 3
        else
          ((f_X3_bindingFor b x a0).bind fun v63 =>
          if (v63 = (-1) : Prop) then
            f_X3_againstDecision_93 b x a1 v5
          else
            ((f_X2_amendsOf b x v63).bind fun v80 =>
            if (v80 = a1 : Prop) then
              f_X3_againstDecision_93 b x a1 v5
            else
              (if (a2 = 0 : Prop) then
                some 4
              else
                f_X3_againstDecision_93 b x a1 v5)))))
    else
      some 1
set_option maxRecDepth 100000 in
set_option maxHeartbeats 4000000 in
theorem p_X3_againstDecision (l : Launch) (E : TE) {b : Nat} (hB_b : IsB b) (x m : XS) (g o : Int64) {a0 : Int32} {a1 : Int32} {a2 : Int32} {r : Int32} (hf : f_X3_againstDecision b x a0 a1 a2 = some r) : MG l E yX3_againstDecision cX3_againstDecision 6 (some .int) 5 [rf E b, .int a0, .int a1, .int a2] (Wd E x m g o) (Wd E x m g o) (some (.int r)) := by
  unfold f_X3_againstDecision at hf
  refine m_in (by decide) (Nat.le_of_ble_eq_true rfl) ?_
  intro p e s mi args below meth c H ls hx hb hr hlk hml hown hB hK hW hS hl
  have hl : lv_has ls 6 [(0, rf E b), (1, .int a0), (2, .int a1), (3, .int a2)] := hl
  have J93 : ∀ (l2_93 : Int32) (l4_93 : Int32) (H : Heap) (locs : List Loc) (ls : Array Slot), f_X3_againstDecision_93 b x l2_93 l4_93 = some r → Wd E x m g o H → va_S (Ah E) s.heap H locs → lv_has ls 6 [(0, rf E b), (2, .int l2_93), (4, .int l4_93)] → W p l e (rmH 5) s mi args below meth c H locs 0 0 (EQ E below args s (Wd E x m g o) (some (.int r))) (F0 mi 93 ls []) := by
    intro l2_93 l4_93 H locs ls hf hW hS hl
    unfold f_X3_againstDecision_93 at hf
    refine lv_aload_n hx hb dX3_againstDecision_93 rfl (lv_at hl 0 rfl) ?_
    refine gf_X3_12 hx hb hB hK hown hW hB_b dX3_againstDecision_94 ?_
    refine lv_iload hx hb dX3_againstDecision_97 (lv_at hl 2 rfl) ?_
    refine lv_iload_n hx hb dX3_againstDecision_99 rfl (lv_at hl 1 rfl) ?_
    obtain ⟨v100, e100, hf⟩ := ob2 hf
    refine c_V (As := [.int l4_93, .int l2_93]) (st1 := [.int v100]) (rest := []) (p_X1_costOf l E hB_b x m g o e100) (kc_X3_137 hB ⟨Nat.le_of_ble_eq_true rfl, Nat.le_of_ble_eq_true rfl⟩) (Wd.rec hK hW (hB_b.l8 (j := 1) (by decide)) (cB_1 hB_b) (ci := 1) rfl) hx hb hml hown hB hK hW hS ⟨Nat.le_refl 0, Nat.le_refl 0⟩ rfl hl.1 rfl (Nat.le_of_ble_eq_true rfl) rfl dX3_againstDecision_100 (fun H locs hW hS => ?_)
    refine lv_aload_n hx hb dX3_againstDecision_103 rfl (lv_at hl 0 rfl) ?_
    refine lv_iload hx hb dX3_againstDecision_104 (lv_at hl 2 rfl) ?_
    obtain ⟨v106, e106, hf⟩ := ob2 hf
    refine c_V (As := [.int l4_93]) (st1 := [.int v106, .int v100]) (rest := [.int v100]) (p_X3_leftOf l E hB_b x m g o e106) (kc_X3_140 hB ⟨Nat.le_of_ble_eq_true rfl, Nat.le_of_ble_eq_true rfl⟩) (Wd.rec hK hW hB_b.l0 (cB_0 hB_b) (ci := 3) rfl) hx hb hml hown hB hK hW hS ⟨Nat.le_refl 0, Nat.le_refl 0⟩ rfl hl.1 rfl (Nat.le_of_ble_eq_true rfl) rfl dX3_againstDecision_106 (fun H locs hW hS => ?_)
    refine lv_icmp_le (tgt := 116) hx hb dX3_againstDecision_109 (by decide) (fun c109 => ?_) (fun c109 => ?_)
    · rw [if_pos c109] at hf
      refine lv_iconst (v := 0) hx hb dX3_againstDecision_116 (by decide) ?_
      cases hf
      exact e_i hx hb hr hlk hW hS dX3_againstDecision_117
    · rw [if_neg c109] at hf
      refine lv_iconst (v := 5) hx hb dX3_againstDecision_112 (by decide) ?_
      refine lv_goto (tgt := 117) hx hb dX3_againstDecision_113 (by decide) ?_
      cases hf
      exact e_i hx hb hr hlk hW hS dX3_againstDecision_117
  refine lv_aload_n hx hb dX3_againstDecision_0 rfl (lv_at hl 0 rfl) ?_
  refine gf_X3_21 hx hb hB hK hown hW hB_b dX3_againstDecision_1 ?_
  refine lv_iload_n hx hb dX3_againstDecision_4 rfl (lv_at hl 1 rfl) ?_
  obtain ⟨v5, e5, hf⟩ := ob2 hf
  refine c_V (As := [.int a0]) (st1 := [.int v5]) (rest := []) (p_X0_kindOf l E hB_b x m g o e5) (kc_X3_99 hB ⟨Nat.le_of_ble_eq_true rfl, Nat.le_of_ble_eq_true rfl⟩) (Wd.rec hK hW (hB_b.l8 (j := 7) (by decide)) (cB_7 hB_b) (ci := 0) rfl) hx hb hml hown hB hK hW hS ⟨Nat.le_refl 0, Nat.le_refl 0⟩ rfl hl.1 rfl (Nat.le_of_ble_eq_true rfl) rfl dX3_againstDecision_5 (fun H locs hW hS => ?_)
  refine lv_istore (lv' := [(4, .int v5), (0, rf E b), (1, .int a0), (2, .int a1), (3, .int a2)]) hx hb dX3_againstDecision_8 hl (by decide) rfl (fun ls hl => ?_)
  refine lv_aload_n hx hb dX3_againstDecision_10 rfl (lv_at hl 1 rfl) ?_
  refine gf_X3_21 hx hb hB hK hown hW hB_b dX3_againstDecision_11 ?_
  refine lv_iload_n hx hb dX3_againstDecision_14 rfl (lv_at hl 2 rfl) ?_
  obtain ⟨v15, e15, hf⟩ := ob2 hf
  refine c_V (As := [.int a0]) (st1 := [.int v15]) (rest := []) (p_X0_stageOf l E hB_b x m g o e15) (kc_X3_112 hB ⟨Nat.le_of_ble_eq_true rfl, Nat.le_of_ble_eq_true rfl⟩) (Wd.rec hK hW (hB_b.l8 (j := 7) (by decide)) (cB_7 hB_b) (ci := 0) rfl) hx hb hml hown hB hK hW hS ⟨Nat.le_refl 0, Nat.le_refl 0⟩ rfl hl.1 rfl (Nat.le_of_ble_eq_true rfl) rfl dX3_againstDecision_15 (fun H locs hW hS => ?_)
  refine lv_if_eq (tgt := 23) hx hb dX3_againstDecision_18 (by decide) (fun c18 => ?_) (fun c18 => ?_)
  · rw [if_pos c18] at hf
    refine lv_aload_n hx hb dX3_againstDecision_23 rfl (lv_at hl 1 rfl) ?_
    refine gf_X3_12 hx hb hB hK hown hW hB_b dX3_againstDecision_24 ?_
    refine lv_iload hx hb dX3_againstDecision_27 (lv_at hl 0 rfl) ?_
    refine lv_iload_n hx hb dX3_againstDecision_29 rfl (lv_at hl 3 rfl) ?_
    obtain ⟨v30, e30, hf⟩ := ob2 hf
    refine c_V (As := [.int v5, .int a1]) (st1 := [.int v30]) (rest := []) (p_X1_isOffered l E hB_b x m g o e30) (kc_X3_95 hB ⟨Nat.le_of_ble_eq_true rfl, Nat.le_of_ble_eq_true rfl⟩) (Wd.rec hK hW (hB_b.l8 (j := 1) (by decide)) (cB_1 hB_b) (ci := 1) rfl) hx hb hml hown hB hK hW hS ⟨Nat.le_refl 0, Nat.le_refl 0⟩ rfl hl.1 rfl (Nat.le_of_ble_eq_true rfl) rfl dX3_againstDecision_30 (fun H locs hW hS => ?_)
    refine lv_if_ne (tgt := 38) hx hb dX3_againstDecision_33 (by decide) (fun c33 => ?_) (fun c33 => ?_)
    · rw [if_neg c33] at hf
      refine lv_aload_n hx hb dX3_againstDecision_38 rfl (lv_at hl 1 rfl) ?_
      refine gf_X3_12 hx hb hB hK hown hW hB_b dX3_againstDecision_39 ?_
      refine lv_iload hx hb dX3_againstDecision_42 (lv_at hl 0 rfl) ?_
      refine lv_iload_n hx hb dX3_againstDecision_44 rfl (lv_at hl 3 rfl) ?_
      refine lv_aload_n hx hb dX3_againstDecision_45 rfl (lv_at hl 1 rfl) ?_
      refine gf_X3_21 hx hb hB hK hown hW hB_b dX3_againstDecision_46 ?_
      refine lv_iload_n hx hb dX3_againstDecision_49 rfl (lv_at hl 2 rfl) ?_
      obtain ⟨v50, e50, hf⟩ := ob2 hf
      refine c_V (As := [.int a0]) (st1 := [.int v50, .int a1, .int v5, rf E (b + 1)]) (rest := [.int a1, .int v5, rf E (b + 1)]) (p_X0_severityOf l E hB_b x m g o e50) (kc_X3_127 hB ⟨Nat.le_of_ble_eq_true rfl, Nat.le_of_ble_eq_true rfl⟩) (Wd.rec hK hW (hB_b.l8 (j := 7) (by decide)) (cB_7 hB_b) (ci := 0) rfl) hx hb hml hown hB hK hW hS ⟨Nat.le_refl 0, Nat.le_refl 0⟩ rfl hl.1 rfl (Nat.le_of_ble_eq_true rfl) rfl dX3_againstDecision_50 (fun H locs hW hS => ?_)
      obtain ⟨v53, e53, hf⟩ := ob2 hf
      refine c_V (As := [.int v5, .int a1, .int v50]) (st1 := [.int v53]) (rest := []) (p_X1_covers l E hB_b x m g o e53) (kc_X3_130 hB ⟨Nat.le_of_ble_eq_true rfl, Nat.le_of_ble_eq_true rfl⟩) (Wd.rec hK hW (hB_b.l8 (j := 1) (by decide)) (cB_1 hB_b) (ci := 1) rfl) hx hb hml hown hB hK hW hS ⟨Nat.le_refl 0, Nat.le_refl 0⟩ rfl hl.1 rfl (Nat.le_of_ble_eq_true rfl) rfl dX3_againstDecision_53 (fun H locs hW hS => ?_)
      refine lv_if_ne (tgt := 61) hx hb dX3_againstDecision_56 (by decide) (fun c56 => ?_) (fun c56 => ?_)
      · rw [if_neg c56] at hf
        refine lv_aload_n hx hb dX3_againstDecision_61 rfl (lv_at hl 1 rfl) ?_
        refine lv_iload_n hx hb dX3_againstDecision_62 rfl (lv_at hl 2 rfl) ?_
        obtain ⟨v63, e63, hf⟩ := ob2 hf
        refine c_V (As := [.int a0]) (st1 := [.int v63]) (rest := []) (p_X3_bindingFor l E hB_b x m g o e63) (kc_X3_134 hB ⟨Nat.le_of_ble_eq_true rfl, Nat.le_of_ble_eq_true rfl⟩) (Wd.rec hK hW hB_b.l0 (cB_0 hB_b) (ci := 3) rfl) hx hb hml hown hB hK hW hS ⟨Nat.le_refl 0, Nat.le_refl 0⟩ rfl hl.1 rfl (Nat.le_of_ble_eq_true rfl) rfl dX3_againstDecision_63 (fun H locs hW hS => ?_)
        refine lv_istore (lv' := [(5, .int v63), (4, .int v5), (0, rf E b), (1, .int a0), (2, .int a1), (3, .int a2)]) hx hb dX3_againstDecision_66 hl (by decide) rfl (fun ls hl => ?_)
        refine lv_iload hx hb dX3_againstDecision_68 (lv_at hl 0 rfl) ?_
        refine lv_iconst (v := (-1)) hx hb dX3_againstDecision_70 (by decide) ?_
        refine lv_icmp_eq (tgt := 93) hx hb dX3_againstDecision_71 (by decide) (fun c71 => ?_) (fun c71 => ?_)
        · rw [if_pos c71] at hf
          exact J93 a1 v5 _ _ _ hf hW hS (lv_sub hl [2, 4, 1] rfl)
        · rw [if_neg c71] at hf
          refine lv_aload_n hx hb dX3_againstDecision_74 rfl (lv_at hl 2 rfl) ?_
          refine gf_X3_28 hx hb hB hK hown hW hB_b dX3_againstDecision_75 ?_
          refine lv_iload hx hb dX3_againstDecision_78 (lv_at hl 0 rfl) ?_
          obtain ⟨v80, e80, hf⟩ := ob2 hf
          refine c_V (As := [.int v63]) (st1 := [.int v80]) (rest := []) (p_X2_amendsOf l E hB_b x m g o e80) (kc_X3_92 hB ⟨Nat.le_of_ble_eq_true rfl, Nat.le_of_ble_eq_true rfl⟩) (Wd.rec hK hW (hB_b.l8 (j := 17) (by decide)) (cB_17 hB_b) (ci := 2) rfl) hx hb hml hown hB hK hW hS ⟨Nat.le_refl 0, Nat.le_refl 0⟩ rfl hl.1 rfl (Nat.le_of_ble_eq_true rfl) rfl dX3_againstDecision_80 (fun H locs hW hS => ?_)
          refine lv_iload_n hx hb dX3_againstDecision_83 rfl (lv_at hl 4 rfl) ?_
          refine lv_icmp_eq (tgt := 93) hx hb dX3_againstDecision_84 (by decide) (fun c84 => ?_) (fun c84 => ?_)
          · rw [if_pos c84] at hf
            exact J93 a1 v5 _ _ _ hf hW hS (lv_sub hl [2, 4, 1] rfl)
          · rw [if_neg c84] at hf
            refine lv_iload_n hx hb dX3_againstDecision_87 rfl (lv_at hl 5 rfl) ?_
            refine lv_if_ne (tgt := 93) hx hb dX3_againstDecision_88 (by decide) (fun c88 => ?_) (fun c88 => ?_)
            · rw [if_neg c88] at hf
              exact J93 a1 v5 _ _ _ hf hW hS (lv_sub hl [2, 4, 1] rfl)
            · rw [if_pos c88] at hf
              refine lv_iconst (v := 4) hx hb dX3_againstDecision_91 (by decide) ?_
              cases hf
              exact e_i hx hb hr hlk hW hS dX3_againstDecision_92
      · rw [if_pos c56] at hf
        refine lv_iconst (v := 3) hx hb dX3_againstDecision_59 (by decide) ?_
        cases hf
        exact e_i hx hb hr hlk hW hS dX3_againstDecision_60
    · rw [if_pos c33] at hf
      refine lv_iconst (v := 2) hx hb dX3_againstDecision_36 (by decide) ?_
      cases hf
      exact e_i hx hb hr hlk hW hS dX3_againstDecision_37
  · rw [if_neg c18] at hf
    refine lv_iconst (v := 1) hx hb dX3_againstDecision_21 (by decide) ?_
    cases hf
    exact e_i hx hb hr hlk hW hS dX3_againstDecision_22
def f_X3_hand_47 (b : Nat) (x47 : XS) (l1_47 : Int32) (l2_47 : Int32) (l4_47 : Int32) : Option (XS) :=
    (f_X0_give b x47 l1_47 l2_47 l4_47).bind fun x55 =>
    some x55
def f_X3_hand (b : Nat) (x : XS) (a0 : Int32) (a1 : Int32) : Option (XS) :=
    (f_X0_kindOf b x a0).bind fun v5 =>
    (f_X1_costOf b x v5 a1).bind fun v15 =>
    (f_X4_isKind v5).bind fun v21 =>
    if (v21 = 0 : Prop) then
      f_X3_hand_47 b x a0 a1 v15
    else
      ((aget 4 (x (b + 25)) v5).bind fun v33 =>
      (f_X0_gotOf b x a0).bind fun v41 =>
      (aset x (b + 25) 4 v5 (v33 + (v15 - v41))).bind fun x46 =>
      f_X3_hand_47 b x46 a0 a1 v15)
set_option maxRecDepth 100000 in
set_option maxHeartbeats 4000000 in
theorem p_X3_hand (l : Launch) (E : TE) {b : Nat} (hB_b : IsB b) (x m : XS) (g o : Int64) {a0 : Int32} {a1 : Int32} {xr : XS} (hf : f_X3_hand b x a0 a1 = some xr) : MG l E yX3_hand cX3_hand 5 none 3 [rf E b, .int a0, .int a1] (Wd E x m g o) (Wd E xr m g o) none := by
  unfold f_X3_hand at hf
  refine m_in (by decide) (Nat.le_of_ble_eq_true rfl) ?_
  intro p e s mi args below meth c H ls hx hb hr hlk hml hown hB hK hW hS hl
  have hl : lv_has ls 5 [(0, rf E b), (1, .int a0), (2, .int a1)] := hl
  have J47 : ∀ (x47 : XS) (l1_47 : Int32) (l2_47 : Int32) (l4_47 : Int32) (H : Heap) (locs : List Loc) (ls : Array Slot), f_X3_hand_47 b x47 l1_47 l2_47 l4_47 = some xr → Wd E x47 m g o H → va_S (Ah E) s.heap H locs → lv_has ls 5 [(0, rf E b), (1, .int l1_47), (2, .int l2_47), (4, .int l4_47)] → W p l e (rmH 3) s mi args below meth c H locs 0 0 (EQ E below args s (Wd E xr m g o) none) (F0 mi 47 ls []) := by
    intro x47 l1_47 l2_47 l4_47 H locs ls hf hW hS hl
    unfold f_X3_hand_47 at hf
    refine lv_aload_n hx hb dX3_hand_47 rfl (lv_at hl 0 rfl) ?_
    refine gf_X3_21 hx hb hB hK hown hW hB_b dX3_hand_48 ?_
    refine lv_iload_n hx hb dX3_hand_51 rfl (lv_at hl 1 rfl) ?_
    refine lv_iload_n hx hb dX3_hand_52 rfl (lv_at hl 2 rfl) ?_
    refine lv_iload hx hb dX3_hand_53 (lv_at hl 3 rfl) ?_
    obtain ⟨x55, e55, hf⟩ := ob2 hf
    refine c_V (As := [.int l1_47, .int l2_47, .int l4_47]) (st1 := []) (rest := []) (p_X0_give l E hB_b x47 m g o e55) (kc_X3_158 hB ⟨Nat.le_of_ble_eq_true rfl, Nat.le_of_ble_eq_true rfl⟩) (Wd.rec hK hW (hB_b.l8 (j := 7) (by decide)) (cB_7 hB_b) (ci := 0) rfl) hx hb hml hown hB hK hW hS ⟨Nat.le_refl 0, Nat.le_refl 0⟩ rfl hl.1 rfl (Nat.le_of_ble_eq_true rfl) rfl dX3_hand_55 (fun H locs hW hS => ?_)
    cases hf
    exact e_v hx hb hr hlk hW hS dX3_hand_58
  refine lv_aload_n hx hb dX3_hand_0 rfl (lv_at hl 0 rfl) ?_
  refine gf_X3_21 hx hb hB hK hown hW hB_b dX3_hand_1 ?_
  refine lv_iload_n hx hb dX3_hand_4 rfl (lv_at hl 1 rfl) ?_
  obtain ⟨v5, e5, hf⟩ := ob2 hf
  refine c_V (As := [.int a0]) (st1 := [.int v5]) (rest := []) (p_X0_kindOf l E hB_b x m g o e5) (kc_X3_99 hB ⟨Nat.le_of_ble_eq_true rfl, Nat.le_of_ble_eq_true rfl⟩) (Wd.rec hK hW (hB_b.l8 (j := 7) (by decide)) (cB_7 hB_b) (ci := 0) rfl) hx hb hml hown hB hK hW hS ⟨Nat.le_refl 0, Nat.le_refl 0⟩ rfl hl.1 rfl (Nat.le_of_ble_eq_true rfl) rfl dX3_hand_5 (fun H locs hW hS => ?_)
  refine lv_istore_n (lv' := [(3, .int v5), (0, rf E b), (1, .int a0), (2, .int a1)]) hx hb dX3_hand_8 rfl hl (by decide) rfl (fun ls hl => ?_)
  refine lv_aload_n hx hb dX3_hand_9 rfl (lv_at hl 1 rfl) ?_
  refine gf_X3_12 hx hb hB hK hown hW hB_b dX3_hand_10 ?_
  refine lv_iload_n hx hb dX3_hand_13 rfl (lv_at hl 0 rfl) ?_
  refine lv_iload_n hx hb dX3_hand_14 rfl (lv_at hl 3 rfl) ?_
  obtain ⟨v15, e15, hf⟩ := ob2 hf
  refine c_V (As := [.int v5, .int a1]) (st1 := [.int v15]) (rest := []) (p_X1_costOf l E hB_b x m g o e15) (kc_X3_137 hB ⟨Nat.le_of_ble_eq_true rfl, Nat.le_of_ble_eq_true rfl⟩) (Wd.rec hK hW (hB_b.l8 (j := 1) (by decide)) (cB_1 hB_b) (ci := 1) rfl) hx hb hml hown hB hK hW hS ⟨Nat.le_refl 0, Nat.le_refl 0⟩ rfl hl.1 rfl (Nat.le_of_ble_eq_true rfl) rfl dX3_hand_15 (fun H locs hW hS => ?_)
  refine lv_istore (lv' := [(4, .int v15), (3, .int v5), (0, rf E b), (1, .int a0), (2, .int a1)]) hx hb dX3_hand_18 hl (by decide) rfl (fun ls hl => ?_)
  refine lv_iload_n hx hb dX3_hand_20 rfl (lv_at hl 1 rfl) ?_
  obtain ⟨v21, e21, hf⟩ := ob2 hf
  refine c_SN (As := [.int v5]) (st1 := [.int v21]) (rest := []) (p_X4_isKind l E x m g o e21) (kc_X3_76 hB hK ⟨Nat.le_of_ble_eq_true rfl, Nat.le_of_ble_eq_true rfl⟩) hx hb hml hown hB hK hW hS ⟨Nat.le_refl 0, Nat.le_refl 0⟩ rfl hl.1 rfl (Nat.le_of_ble_eq_true rfl) rfl dX3_hand_21 (fun H locs hW hS => ?_)
  refine lv_if_eq (tgt := 47) hx hb dX3_hand_24 (by decide) (fun c24 => ?_) (fun c24 => ?_)
  · rw [if_pos c24] at hf
    exact J47 x a0 a1 v15 _ _ _ hf hW hS (lv_sub hl [2, 3, 4, 0] rfl)
  · rw [if_neg c24] at hf
    refine lv_aload_n hx hb dX3_hand_27 rfl (lv_at hl 2 rfl) ?_
    refine gf_X3_42 hx hb hB hK hown hW hB_b dX3_hand_28 ?_
    refine lv_iload_n hx hb dX3_hand_31 rfl (lv_at hl 1 rfl) ?_
    refine lv_dup2_11 hx hb dX3_hand_32 rfl rfl ?_
    obtain ⟨v33, e33, hf⟩ := ob2 hf
    refine r_iald hx hb hK hW (hB_b.l8 (by decide)) (cB_25 hB_b) e33 dX3_hand_33 ?_
    refine lv_iload hx hb dX3_hand_34 (lv_at hl 0 rfl) ?_
    refine lv_aload_n hx hb dX3_hand_36 rfl (lv_at hl 2 rfl) ?_
    refine gf_X3_21 hx hb hB hK hown hW hB_b dX3_hand_37 ?_
    refine lv_iload_n hx hb dX3_hand_40 rfl (lv_at hl 3 rfl) ?_
    obtain ⟨v41, e41, hf⟩ := ob2 hf
    refine c_V (As := [.int a0]) (st1 := [.int v41, .int v15, .int v33, .int v5, rf E (b + 25)]) (rest := [.int v15, .int v33, .int v5, rf E (b + 25)]) (p_X0_gotOf l E hB_b x m g o e41) (kc_X3_155 hB ⟨Nat.le_of_ble_eq_true rfl, Nat.le_of_ble_eq_true rfl⟩) (Wd.rec hK hW (hB_b.l8 (j := 7) (by decide)) (cB_7 hB_b) (ci := 0) rfl) hx hb hml hown hB hK hW hS ⟨Nat.le_refl 0, Nat.le_refl 0⟩ rfl hl.1 rfl (Nat.le_of_ble_eq_true rfl) rfl dX3_hand_41 (fun H locs hW hS => ?_)
    refine lv_isub hx hb dX3_hand_44 ?_
    refine lv_iadd hx hb dX3_hand_45 ?_
    obtain ⟨x46, e46, hf⟩ := ob2 hf
    refine r_iastX hx hb hK hW hS (hB_b.lt (by decide)) (fun _ => cB_25 hB_b) e46 dX3_hand_46 (fun H locs hW hS => ?_)
    exact J47 x46 a0 a1 v15 _ _ _ hf hW hS (lv_sub hl [2, 3, 4, 0] rfl)
def f_X3_tieOf (b : Nat) (x : XS) (a0 : Int32) : Option (Int32) :=
    (f_X0_stageOf b x a0).bind fun v5 =>
    if (v5 = 0 : Prop) then
      some 0
    else
      ((f_X0_followedBy b x a0).bind fun v18 =>
      if (v18 = (-1) : Prop) then
        some 3
      else
        ((f_X2_setterOf b x v18).bind fun v34 =>
        if (v34 = a0 : Prop) then
          some 1
        else
          some 2))
set_option maxRecDepth 100000 in
set_option maxHeartbeats 4000000 in
theorem p_X3_tieOf (l : Launch) (E : TE) {b : Nat} (hB_b : IsB b) (x m : XS) (g o : Int64) {a0 : Int32} {r : Int32} (hf : f_X3_tieOf b x a0 = some r) : MG l E yX3_tieOf cX3_tieOf 3 (some .int) 2 [rf E b, .int a0] (Wd E x m g o) (Wd E x m g o) (some (.int r)) := by
  unfold f_X3_tieOf at hf
  refine m_in (by decide) (Nat.le_of_ble_eq_true rfl) ?_
  intro p e s mi args below meth c H ls hx hb hr hlk hml hown hB hK hW hS hl
  have hl : lv_has ls 3 [(0, rf E b), (1, .int a0)] := hl
  refine lv_aload_n hx hb dX3_tieOf_0 rfl (lv_at hl 0 rfl) ?_
  refine gf_X3_21 hx hb hB hK hown hW hB_b dX3_tieOf_1 ?_
  refine lv_iload_n hx hb dX3_tieOf_4 rfl (lv_at hl 1 rfl) ?_
  obtain ⟨v5, e5, hf⟩ := ob2 hf
  refine c_V (As := [.int a0]) (st1 := [.int v5]) (rest := []) (p_X0_stageOf l E hB_b x m g o e5) (kc_X3_112 hB ⟨Nat.le_of_ble_eq_true rfl, Nat.le_of_ble_eq_true rfl⟩) (Wd.rec hK hW (hB_b.l8 (j := 7) (by decide)) (cB_7 hB_b) (ci := 0) rfl) hx hb hml hown hB hK hW hS ⟨Nat.le_refl 0, Nat.le_refl 0⟩ rfl hl.1 rfl (Nat.le_of_ble_eq_true rfl) rfl dX3_tieOf_5 (fun H locs hW hS => ?_)
  refine lv_if_ne (tgt := 13) hx hb dX3_tieOf_8 (by decide) (fun c8 => ?_) (fun c8 => ?_)
  · rw [if_neg c8] at hf
    refine lv_aload_n hx hb dX3_tieOf_13 rfl (lv_at hl 0 rfl) ?_
    refine gf_X3_21 hx hb hB hK hown hW hB_b dX3_tieOf_14 ?_
    refine lv_iload_n hx hb dX3_tieOf_17 rfl (lv_at hl 1 rfl) ?_
    obtain ⟨v18, e18, hf⟩ := ob2 hf
    refine c_V (As := [.int a0]) (st1 := [.int v18]) (rest := []) (p_X0_followedBy l E hB_b x m g o e18) (kc_X3_115 hB ⟨Nat.le_of_ble_eq_true rfl, Nat.le_of_ble_eq_true rfl⟩) (Wd.rec hK hW (hB_b.l8 (j := 7) (by decide)) (cB_7 hB_b) (ci := 0) rfl) hx hb hml hown hB hK hW hS ⟨Nat.le_refl 0, Nat.le_refl 0⟩ rfl hl.1 rfl (Nat.le_of_ble_eq_true rfl) rfl dX3_tieOf_18 (fun H locs hW hS => ?_)
    refine lv_istore_n (lv' := [(2, .int v18), (0, rf E b), (1, .int a0)]) hx hb dX3_tieOf_21 rfl hl (by decide) rfl (fun ls hl => ?_)
    refine lv_iload_n hx hb dX3_tieOf_22 rfl (lv_at hl 0 rfl) ?_
    refine lv_iconst (v := (-1)) hx hb dX3_tieOf_23 (by decide) ?_
    refine lv_icmp_ne (tgt := 29) hx hb dX3_tieOf_24 (by decide) (fun c24 => ?_) (fun c24 => ?_)
    · rw [if_neg c24] at hf
      refine lv_aload_n hx hb dX3_tieOf_29 rfl (lv_at hl 1 rfl) ?_
      refine gf_X3_28 hx hb hB hK hown hW hB_b dX3_tieOf_30 ?_
      refine lv_iload_n hx hb dX3_tieOf_33 rfl (lv_at hl 0 rfl) ?_
      obtain ⟨v34, e34, hf⟩ := ob2 hf
      refine c_V (As := [.int v18]) (st1 := [.int v34]) (rest := []) (p_X2_setterOf l E hB_b x m g o e34) (kc_X3_118 hB ⟨Nat.le_of_ble_eq_true rfl, Nat.le_of_ble_eq_true rfl⟩) (Wd.rec hK hW (hB_b.l8 (j := 17) (by decide)) (cB_17 hB_b) (ci := 2) rfl) hx hb hml hown hB hK hW hS ⟨Nat.le_refl 0, Nat.le_refl 0⟩ rfl hl.1 rfl (Nat.le_of_ble_eq_true rfl) rfl dX3_tieOf_34 (fun H locs hW hS => ?_)
      refine lv_iload_n hx hb dX3_tieOf_37 rfl (lv_at hl 2 rfl) ?_
      refine lv_icmp_ne (tgt := 45) hx hb dX3_tieOf_38 (by decide) (fun c38 => ?_) (fun c38 => ?_)
      · rw [if_neg c38] at hf
        refine lv_iconst (v := 2) hx hb dX3_tieOf_45 (by decide) ?_
        cases hf
        exact e_i hx hb hr hlk hW hS dX3_tieOf_46
      · rw [if_pos c38] at hf
        refine lv_iconst (v := 1) hx hb dX3_tieOf_41 (by decide) ?_
        refine lv_goto (tgt := 46) hx hb dX3_tieOf_42 (by decide) ?_
        cases hf
        exact e_i hx hb hr hlk hW hS dX3_tieOf_46
    · rw [if_pos c24] at hf
      refine lv_iconst (v := 3) hx hb dX3_tieOf_27 (by decide) ?_
      cases hf
      exact e_i hx hb hr hlk hW hS dX3_tieOf_28
  · rw [if_pos c8] at hf
    refine lv_iconst (v := 0) hx hb dX3_tieOf_11 (by decide) ?_
    cases hf
    exact e_i hx hb hr hlk hW hS dX3_tieOf_12
def f_X3_makeDecision_117 (b : Nat) (x117 : XS) (l1_117 : Int32) : Option (Int32 × XS) :=
    (f_X3_tieOf b x117 l1_117).bind fun v119 =>
    some (v119, x117)
def f_X3_makeDecision (b : Nat) (x : XS) (a0 : Int32) (a1 : Int32) (a2 : Int32) : Option (Int32 × XS) :=
    (f_X0_kindOf b x a0).bind fun v5 =>
    (f_X3_bindingFor b x a0).bind fun v12 =>
    (f_X3_hand b x a0 a1).bind fun x20 =>
    if (v12 = (-1) : Prop) then
      ((f_X0_groupOf b x20 a0).bind fun v40 =>
      (f_X2_add b x20 v5 v40 a1 (x20 b 7) a0).bind fun q49 => (fun v49 x49 =>
      (f_X0_noteDecision b x49 a0 (x49 b 7) v49 0).bind fun x66 =>
      f_X3_makeDecision_117 b x66 a0) q49.1 q49.2)
    else
      ((f_X2_amendsOf b x20 v12).bind fun v78 =>
      if (v78 = a1 : Prop) then
        ((f_X0_noteDecision b x20 a0 (x20 b 7) v12 0).bind fun x97 =>
        f_X3_makeDecision_117 b x97 a0)
      else
        ((f_X0_noteDecision b x20 a0 (x20 b 7) (-1) a2).bind fun x114 =>
        f_X3_makeDecision_117 b x114 a0))
set_option maxRecDepth 100000 in
set_option maxHeartbeats 4000000 in
theorem p_X3_makeDecision (l : Launch) (E : TE) {b : Nat} (hB_b : IsB b) (x m : XS) (g o : Int64) {a0 : Int32} {a1 : Int32} {a2 : Int32} {r : Int32} {xr : XS} (hf : f_X3_makeDecision b x a0 a1 a2 = some (r, xr)) : MG l E yX3_makeDecision cX3_makeDecision 7 (some .int) 5 [rf E b, .int a0, .int a1, .int a2] (Wd E x m g o) (Wd E xr m g o) (some (.int r)) := by
  unfold f_X3_makeDecision at hf
  refine m_in (by decide) (Nat.le_of_ble_eq_true rfl) ?_
  intro p e s mi args below meth c H ls hx hb hr hlk hml hown hB hK hW hS hl
  have hl : lv_has ls 7 [(0, rf E b), (1, .int a0), (2, .int a1), (3, .int a2)] := hl
  have J117 : ∀ (x117 : XS) (l1_117 : Int32) (H : Heap) (locs : List Loc) (ls : Array Slot), f_X3_makeDecision_117 b x117 l1_117 = some (r, xr) → Wd E x117 m g o H → va_S (Ah E) s.heap H locs → lv_has ls 7 [(0, rf E b), (1, .int l1_117)] → W p l e (rmH 5) s mi args below meth c H locs 0 0 (EQ E below args s (Wd E xr m g o) (some (.int r))) (F0 mi 117 ls []) := by
    intro x117 l1_117 H locs ls hf hW hS hl
    unfold f_X3_makeDecision_117 at hf
    refine lv_aload_n hx hb dX3_makeDecision_117 rfl (lv_at hl 0 rfl) ?_
    refine lv_iload_n hx hb dX3_makeDecision_118 rfl (lv_at hl 1 rfl) ?_
    obtain ⟨v119, e119, hf⟩ := ob2 hf
    refine c_V (As := [.int l1_117]) (st1 := [.int v119]) (rest := []) (p_X3_tieOf l E hB_b x117 m g o e119) (kc_X3_124 hB ⟨Nat.le_of_ble_eq_true rfl, Nat.le_of_ble_eq_true rfl⟩) (Wd.rec hK hW hB_b.l0 (cB_0 hB_b) (ci := 3) rfl) hx hb hml hown hB hK hW hS ⟨Nat.le_refl 0, Nat.le_refl 0⟩ rfl hl.1 rfl (Nat.le_of_ble_eq_true rfl) rfl dX3_makeDecision_119 (fun H locs hW hS => ?_)
    cases hf
    exact e_i hx hb hr hlk hW hS dX3_makeDecision_122
  refine lv_aload_n hx hb dX3_makeDecision_0 rfl (lv_at hl 0 rfl) ?_
  refine gf_X3_21 hx hb hB hK hown hW hB_b dX3_makeDecision_1 ?_
  refine lv_iload_n hx hb dX3_makeDecision_4 rfl (lv_at hl 1 rfl) ?_
  obtain ⟨v5, e5, hf⟩ := ob2 hf
  refine c_V (As := [.int a0]) (st1 := [.int v5]) (rest := []) (p_X0_kindOf l E hB_b x m g o e5) (kc_X3_99 hB ⟨Nat.le_of_ble_eq_true rfl, Nat.le_of_ble_eq_true rfl⟩) (Wd.rec hK hW (hB_b.l8 (j := 7) (by decide)) (cB_7 hB_b) (ci := 0) rfl) hx hb hml hown hB hK hW hS ⟨Nat.le_refl 0, Nat.le_refl 0⟩ rfl hl.1 rfl (Nat.le_of_ble_eq_true rfl) rfl dX3_makeDecision_5 (fun H locs hW hS => ?_)
  refine lv_istore (lv' := [(4, .int v5), (0, rf E b), (1, .int a0), (2, .int a1), (3, .int a2)]) hx hb dX3_makeDecision_8 hl (by decide) rfl (fun ls hl => ?_)
  refine lv_aload_n hx hb dX3_makeDecision_10 rfl (lv_at hl 1 rfl) ?_
  refine lv_iload_n hx hb dX3_makeDecision_11 rfl (lv_at hl 2 rfl) ?_
  obtain ⟨v12, e12, hf⟩ := ob2 hf
  refine c_V (As := [.int a0]) (st1 := [.int v12]) (rest := []) (p_X3_bindingFor l E hB_b x m g o e12) (kc_X3_134 hB ⟨Nat.le_of_ble_eq_true rfl, Nat.le_of_ble_eq_true rfl⟩) (Wd.rec hK hW hB_b.l0 (cB_0 hB_b) (ci := 3) rfl) hx hb hml hown hB hK hW hS ⟨Nat.le_refl 0, Nat.le_refl 0⟩ rfl hl.1 rfl (Nat.le_of_ble_eq_true rfl) rfl dX3_makeDecision_12 (fun H locs hW hS => ?_)
  refine lv_istore (lv' := [(5, .int v12), (4, .int v5), (0, rf E b), (1, .int a0), (2, .int a1), (3, .int a2)]) hx hb dX3_makeDecision_15 hl (by decide) rfl (fun ls hl => ?_)
  refine lv_aload_n hx hb dX3_makeDecision_17 rfl (lv_at hl 2 rfl) ?_
  refine lv_iload_n hx hb dX3_makeDecision_18 rfl (lv_at hl 3 rfl) ?_
  refine lv_iload_n hx hb dX3_makeDecision_19 rfl (lv_at hl 4 rfl) ?_
  obtain ⟨x20, e20, hf⟩ := ob2 hf
  refine c_V (As := [.int a0, .int a1]) (st1 := []) (rest := []) (p_X3_hand l E hB_b x m g o e20) (kc_X3_143 hB ⟨Nat.le_of_ble_eq_true rfl, Nat.le_of_ble_eq_true rfl⟩) (Wd.rec hK hW hB_b.l0 (cB_0 hB_b) (ci := 3) rfl) hx hb hml hown hB hK hW hS ⟨Nat.le_refl 0, Nat.le_refl 0⟩ rfl hl.1 rfl (Nat.le_of_ble_eq_true rfl) rfl dX3_makeDecision_20 (fun H locs hW hS => ?_)
  refine lv_iload hx hb dX3_makeDecision_23 (lv_at hl 0 rfl) ?_
  refine lv_iconst (v := (-1)) hx hb dX3_makeDecision_25 (by decide) ?_
  refine lv_icmp_ne (tgt := 72) hx hb dX3_makeDecision_26 (by decide) (fun c26 => ?_) (fun c26 => ?_)
  · rw [if_neg c26] at hf
    refine lv_aload_n hx hb dX3_makeDecision_72 rfl (lv_at hl 2 rfl) ?_
    refine gf_X3_28 hx hb hB hK hown hW hB_b dX3_makeDecision_73 ?_
    refine lv_iload hx hb dX3_makeDecision_76 (lv_at hl 0 rfl) ?_
    obtain ⟨v78, e78, hf⟩ := ob2 hf
    refine c_V (As := [.int v12]) (st1 := [.int v78]) (rest := []) (p_X2_amendsOf l E hB_b x20 m g o e78) (kc_X3_92 hB ⟨Nat.le_of_ble_eq_true rfl, Nat.le_of_ble_eq_true rfl⟩) (Wd.rec hK hW (hB_b.l8 (j := 17) (by decide)) (cB_17 hB_b) (ci := 2) rfl) hx hb hml hown hB hK hW hS ⟨Nat.le_refl 0, Nat.le_refl 0⟩ rfl hl.1 rfl (Nat.le_of_ble_eq_true rfl) rfl dX3_makeDecision_78 (fun H locs hW hS => ?_)
    refine lv_iload_n hx hb dX3_makeDecision_81 rfl (lv_at hl 4 rfl) ?_
    refine lv_icmp_ne (tgt := 103) hx hb dX3_makeDecision_82 (by decide) (fun c82 => ?_) (fun c82 => ?_)
    · rw [if_neg c82] at hf
      refine lv_aload_n hx hb dX3_makeDecision_103 rfl (lv_at hl 2 rfl) ?_
      refine gf_X3_21 hx hb hB hK hown hW hB_b dX3_makeDecision_104 ?_
      refine lv_iload_n hx hb dX3_makeDecision_107 rfl (lv_at hl 3 rfl) ?_
      refine lv_aload_n hx hb dX3_makeDecision_108 rfl (lv_at hl 2 rfl) ?_
      refine gf_X3_68 hx hb hB hK hown hW hB_b dX3_makeDecision_109 ?_
      refine lv_iconst (v := (-1)) hx hb dX3_makeDecision_112 (by decide) ?_
      refine lv_iload_n hx hb dX3_makeDecision_113 rfl (lv_at hl 5 rfl) ?_
      obtain ⟨x114, e114, hf⟩ := ob2 hf
      refine c_V (As := [.int a0, .int (x20 b 7), .int (-1), .int a2]) (st1 := []) (rest := []) (p_X0_noteDecision l E hB_b x20 m g o e114) (kc_X3_151 hB ⟨Nat.le_of_ble_eq_true rfl, Nat.le_of_ble_eq_true rfl⟩) (Wd.rec hK hW (hB_b.l8 (j := 7) (by decide)) (cB_7 hB_b) (ci := 0) rfl) hx hb hml hown hB hK hW hS ⟨Nat.le_refl 0, Nat.le_refl 0⟩ rfl hl.1 rfl (Nat.le_of_ble_eq_true rfl) rfl dX3_makeDecision_114 (fun H locs hW hS => ?_)
      exact J117 x114 a0 _ _ _ hf hW hS (lv_sub hl [2, 3] rfl)
    · rw [if_pos c82] at hf
      refine lv_aload_n hx hb dX3_makeDecision_85 rfl (lv_at hl 2 rfl) ?_
      refine gf_X3_21 hx hb hB hK hown hW hB_b dX3_makeDecision_86 ?_
      refine lv_iload_n hx hb dX3_makeDecision_89 rfl (lv_at hl 3 rfl) ?_
      refine lv_aload_n hx hb dX3_makeDecision_90 rfl (lv_at hl 2 rfl) ?_
      refine gf_X3_68 hx hb hB hK hown hW hB_b dX3_makeDecision_91 ?_
      refine lv_iload hx hb dX3_makeDecision_94 (lv_at hl 0 rfl) ?_
      refine lv_iconst (v := 0) hx hb dX3_makeDecision_96 (by decide) ?_
      obtain ⟨x97, e97, hf⟩ := ob2 hf
      refine c_V (As := [.int a0, .int (x20 b 7), .int v12, .int 0]) (st1 := []) (rest := []) (p_X0_noteDecision l E hB_b x20 m g o e97) (kc_X3_151 hB ⟨Nat.le_of_ble_eq_true rfl, Nat.le_of_ble_eq_true rfl⟩) (Wd.rec hK hW (hB_b.l8 (j := 7) (by decide)) (cB_7 hB_b) (ci := 0) rfl) hx hb hml hown hB hK hW hS ⟨Nat.le_refl 0, Nat.le_refl 0⟩ rfl hl.1 rfl (Nat.le_of_ble_eq_true rfl) rfl dX3_makeDecision_97 (fun H locs hW hS => ?_)
      refine lv_goto (tgt := 117) hx hb dX3_makeDecision_100 (by decide) ?_
      exact J117 x97 a0 _ _ _ hf hW hS (lv_sub hl [2, 3] rfl)
  · rw [if_pos c26] at hf
    refine lv_aload_n hx hb dX3_makeDecision_29 rfl (lv_at hl 2 rfl) ?_
    refine gf_X3_28 hx hb hB hK hown hW hB_b dX3_makeDecision_30 ?_
    refine lv_iload hx hb dX3_makeDecision_33 (lv_at hl 1 rfl) ?_
    refine lv_aload_n hx hb dX3_makeDecision_35 rfl (lv_at hl 2 rfl) ?_
    refine gf_X3_21 hx hb hB hK hown hW hB_b dX3_makeDecision_36 ?_
    refine lv_iload_n hx hb dX3_makeDecision_39 rfl (lv_at hl 3 rfl) ?_
    obtain ⟨v40, e40, hf⟩ := ob2 hf
    refine c_V (As := [.int a0]) (st1 := [.int v40, .int v5, rf E (b + 17)]) (rest := [.int v5, rf E (b + 17)]) (p_X0_groupOf l E hB_b x20 m g o e40) (kc_X3_102 hB ⟨Nat.le_of_ble_eq_true rfl, Nat.le_of_ble_eq_true rfl⟩) (Wd.rec hK hW (hB_b.l8 (j := 7) (by decide)) (cB_7 hB_b) (ci := 0) rfl) hx hb hml hown hB hK hW hS ⟨Nat.le_refl 0, Nat.le_refl 0⟩ rfl hl.1 rfl (Nat.le_of_ble_eq_true rfl) rfl dX3_makeDecision_40 (fun H locs hW hS => ?_)
    refine lv_iload_n hx hb dX3_makeDecision_43 rfl (lv_at hl 4 rfl) ?_
    refine lv_aload_n hx hb dX3_makeDecision_44 rfl (lv_at hl 2 rfl) ?_
    refine gf_X3_68 hx hb hB hK hown hW hB_b dX3_makeDecision_45 ?_
    refine lv_iload_n hx hb dX3_makeDecision_48 rfl (lv_at hl 3 rfl) ?_
    obtain ⟨⟨v49, x49⟩, e49, hf⟩ := ob2 hf
    dsimp only at hf
    refine c_V (As := [.int v5, .int v40, .int a1, .int (x20 b 7), .int a0]) (st1 := [.int v49]) (rest := []) (p_X2_add l E hB_b x20 m g o e49) (kc_X3_147 hB ⟨Nat.le_of_ble_eq_true rfl, Nat.le_of_ble_eq_true rfl⟩) (Wd.rec hK hW (hB_b.l8 (j := 17) (by decide)) (cB_17 hB_b) (ci := 2) rfl) hx hb hml hown hB hK hW hS ⟨Nat.le_refl 0, Nat.le_refl 0⟩ rfl hl.1 rfl (Nat.le_of_ble_eq_true rfl) rfl dX3_makeDecision_49 (fun H locs hW hS => ?_)
    refine lv_istore (lv' := [(6, .int v49), (5, .int v12), (4, .int v5), (0, rf E b), (1, .int a0), (2, .int a1), (3, .int a2)]) hx hb dX3_makeDecision_52 hl (by decide) rfl (fun ls hl => ?_)
    refine lv_aload_n hx hb dX3_makeDecision_54 rfl (lv_at hl 3 rfl) ?_
    refine gf_X3_21 hx hb hB hK hown hW hB_b dX3_makeDecision_55 ?_
    refine lv_iload_n hx hb dX3_makeDecision_58 rfl (lv_at hl 4 rfl) ?_
    refine lv_aload_n hx hb dX3_makeDecision_59 rfl (lv_at hl 3 rfl) ?_
    refine gf_X3_68 hx hb hB hK hown hW hB_b dX3_makeDecision_60 ?_
    refine lv_iload hx hb dX3_makeDecision_63 (lv_at hl 0 rfl) ?_
    refine lv_iconst (v := 0) hx hb dX3_makeDecision_65 (by decide) ?_
    obtain ⟨x66, e66, hf⟩ := ob2 hf
    refine c_V (As := [.int a0, .int (x49 b 7), .int v49, .int 0]) (st1 := []) (rest := []) (p_X0_noteDecision l E hB_b x49 m g o e66) (kc_X3_151 hB ⟨Nat.le_of_ble_eq_true rfl, Nat.le_of_ble_eq_true rfl⟩) (Wd.rec hK hW (hB_b.l8 (j := 7) (by decide)) (cB_7 hB_b) (ci := 0) rfl) hx hb hml hown hB hK hW hS ⟨Nat.le_refl 0, Nat.le_refl 0⟩ rfl hl.1 rfl (Nat.le_of_ble_eq_true rfl) rfl dX3_makeDecision_66 (fun H locs hW hS => ?_)
    refine lv_goto (tgt := 117) hx hb dX3_makeDecision_69 (by decide) ?_
    exact J117 x66 a0 _ _ _ hf hW hS (lv_sub hl [3, 4] rfl)
def f_X3_canBeAppealed (b : Nat) (x : XS) (a0 : Int32) : Option (Int32) :=
    (f_X0_stageOf b x a0).bind fun v5 =>
    if (v5 = 1 : Prop) then
      ((f_X0_monthOf b x a0).bind fun v21 =>
      (f_X3_settingOf b x 1).bind fun v26 =>
      if ((v21 + v26) < (x b 7) : Prop) then
        some 0
      else
        some 1)
    else
      some 0
set_option maxRecDepth 100000 in
set_option maxHeartbeats 4000000 in
theorem p_X3_canBeAppealed (l : Launch) (E : TE) {b : Nat} (hB_b : IsB b) (x m : XS) (g o : Int64) {a0 : Int32} {r : Int32} (hf : f_X3_canBeAppealed b x a0 = some r) : MG l E yX3_canBeAppealed cX3_canBeAppealed 2 (some .boolean) 2 [rf E b, .int a0] (Wd E x m g o) (Wd E x m g o) (some (.int r)) := by
  unfold f_X3_canBeAppealed at hf
  refine m_in (by decide) (Nat.le_of_ble_eq_true rfl) ?_
  intro p e s mi args below meth c H ls hx hb hr hlk hml hown hB hK hW hS hl
  have hl : lv_has ls 2 [(0, rf E b), (1, .int a0)] := hl
  refine lv_aload_n hx hb dX3_canBeAppealed_0 rfl (lv_at hl 0 rfl) ?_
  refine gf_X3_21 hx hb hB hK hown hW hB_b dX3_canBeAppealed_1 ?_
  refine lv_iload_n hx hb dX3_canBeAppealed_4 rfl (lv_at hl 1 rfl) ?_
  obtain ⟨v5, e5, hf⟩ := ob2 hf
  refine c_V (As := [.int a0]) (st1 := [.int v5]) (rest := []) (p_X0_stageOf l E hB_b x m g o e5) (kc_X3_112 hB ⟨Nat.le_of_ble_eq_true rfl, Nat.le_of_ble_eq_true rfl⟩) (Wd.rec hK hW (hB_b.l8 (j := 7) (by decide)) (cB_7 hB_b) (ci := 0) rfl) hx hb hml hown hB hK hW hS ⟨Nat.le_refl 0, Nat.le_refl 0⟩ rfl hl.1 rfl (Nat.le_of_ble_eq_true rfl) rfl dX3_canBeAppealed_5 (fun H locs hW hS => ?_)
  refine lv_iconst (v := 1) hx hb dX3_canBeAppealed_8 (by decide) ?_
  refine lv_icmp_ne (tgt := 37) hx hb dX3_canBeAppealed_9 (by decide) (fun c9 => ?_) (fun c9 => ?_)
  · rw [if_neg c9] at hf
    refine lv_iconst (v := 0) hx hb dX3_canBeAppealed_37 (by decide) ?_
    cases hf
    exact e_z hx hb hr hlk (Or.inl rfl) hW hS dX3_canBeAppealed_38
  · rw [if_pos c9] at hf
    refine lv_aload_n hx hb dX3_canBeAppealed_12 rfl (lv_at hl 0 rfl) ?_
    refine gf_X3_68 hx hb hB hK hown hW hB_b dX3_canBeAppealed_13 ?_
    refine lv_aload_n hx hb dX3_canBeAppealed_16 rfl (lv_at hl 0 rfl) ?_
    refine gf_X3_21 hx hb hB hK hown hW hB_b dX3_canBeAppealed_17 ?_
    refine lv_iload_n hx hb dX3_canBeAppealed_20 rfl (lv_at hl 1 rfl) ?_
    obtain ⟨v21, e21, hf⟩ := ob2 hf
    refine c_V (As := [.int a0]) (st1 := [.int v21, .int (x b 7)]) (rest := [.int (x b 7)]) (p_X0_monthOf l E hB_b x m g o e21) (kc_X3_162 hB ⟨Nat.le_of_ble_eq_true rfl, Nat.le_of_ble_eq_true rfl⟩) (Wd.rec hK hW (hB_b.l8 (j := 7) (by decide)) (cB_7 hB_b) (ci := 0) rfl) hx hb hml hown hB hK hW hS ⟨Nat.le_refl 0, Nat.le_refl 0⟩ rfl hl.1 rfl (Nat.le_of_ble_eq_true rfl) rfl dX3_canBeAppealed_21 (fun H locs hW hS => ?_)
    refine lv_aload_n hx hb dX3_canBeAppealed_24 rfl (lv_at hl 0 rfl) ?_
    refine lv_iconst (v := 1) hx hb dX3_canBeAppealed_25 (by decide) ?_
    obtain ⟨v26, e26, hf⟩ := ob2 hf
    refine c_V (As := [.int 1]) (st1 := [.int v26, .int v21, .int (x b 7)]) (rest := [.int v21, .int (x b 7)]) (p_X3_settingOf l E hB_b x m g o e26) (kc_X3_79 hB ⟨Nat.le_of_ble_eq_true rfl, Nat.le_of_ble_eq_true rfl⟩) (Wd.rec hK hW hB_b.l0 (cB_0 hB_b) (ci := 3) rfl) hx hb hml hown hB hK hW hS ⟨Nat.le_refl 0, Nat.le_refl 0⟩ rfl hl.1 rfl (Nat.le_of_ble_eq_true rfl) rfl dX3_canBeAppealed_26 (fun H locs hW hS => ?_)
    refine lv_iadd hx hb dX3_canBeAppealed_29 ?_
    refine lv_icmp_gt (tgt := 37) hx hb dX3_canBeAppealed_30 (by decide) (fun c30 => ?_) (fun c30 => ?_)
    · rw [if_pos c30] at hf
      refine lv_iconst (v := 0) hx hb dX3_canBeAppealed_37 (by decide) ?_
      cases hf
      exact e_z hx hb hr hlk (Or.inl rfl) hW hS dX3_canBeAppealed_38
    · rw [if_neg c30] at hf
      refine lv_iconst (v := 1) hx hb dX3_canBeAppealed_33 (by decide) ?_
      refine lv_goto (tgt := 38) hx hb dX3_canBeAppealed_34 (by decide) ?_
      cases hf
      exact e_z hx hb hr hlk (Or.inr rfl) hW hS dX3_canBeAppealed_38
def f_X3_againstJudgement (b : Nat) (x : XS) (a0 : Int32) (a1 : Int32) : Option (Int32) :=
    (f_X0_kindOf b x a0).bind fun v5 =>
    (f_X0_stageOf b x a0).bind fun v14 =>
    if (v14 = 2 : Prop) then
      ((f_X1_isOffered b x v5 a1).bind fun v29 =>
      if (v29 = 0 : Prop) then
        some 2
      else
        ((f_X0_severityOf b x a0).bind fun v48 =>
        (f_X1_covers b x v5 a1 v48).bind fun v51 =>
        if (v51 = 0 : Prop) then
          some 3
        else
          ((f_X1_costOf b x v5 a1).bind fun v65 =>
          (f_X0_gotOf b x a0).bind fun v73 =>
          (some ((v65 - v73))).bind fun v77 =>
          if (0 ≤ v77 : Prop) then
            ((f_X3_leftOf b x v5).bind fun v90 =>
            if (v77 ≤ v90 : Prop) then
              some 0
            else
              some 5)
          else
            some 4)))
    else
      some 1
set_option maxRecDepth 100000 in
set_option maxHeartbeats 4000000 in
theorem p_X3_againstJudgement (l : Launch) (E : TE) {b : Nat} (hB_b : IsB b) (x m : XS) (g o : Int64) {a0 : Int32} {a1 : Int32} {r : Int32} (hf : f_X3_againstJudgement b x a0 a1 = some r) : MG l E yX3_againstJudgement cX3_againstJudgement 5 (some .int) 4 [rf E b, .int a0, .int a1] (Wd E x m g o) (Wd E x m g o) (some (.int r)) := by
  unfold f_X3_againstJudgement at hf
  refine m_in (by decide) (Nat.le_of_ble_eq_true rfl) ?_
  intro p e s mi args below meth c H ls hx hb hr hlk hml hown hB hK hW hS hl
  have hl : lv_has ls 5 [(0, rf E b), (1, .int a0), (2, .int a1)] := hl
  refine lv_aload_n hx hb dX3_againstJudgement_0 rfl (lv_at hl 0 rfl) ?_
  refine gf_X3_21 hx hb hB hK hown hW hB_b dX3_againstJudgement_1 ?_
  refine lv_iload_n hx hb dX3_againstJudgement_4 rfl (lv_at hl 1 rfl) ?_
  obtain ⟨v5, e5, hf⟩ := ob2 hf
  refine c_V (As := [.int a0]) (st1 := [.int v5]) (rest := []) (p_X0_kindOf l E hB_b x m g o e5) (kc_X3_99 hB ⟨Nat.le_of_ble_eq_true rfl, Nat.le_of_ble_eq_true rfl⟩) (Wd.rec hK hW (hB_b.l8 (j := 7) (by decide)) (cB_7 hB_b) (ci := 0) rfl) hx hb hml hown hB hK hW hS ⟨Nat.le_refl 0, Nat.le_refl 0⟩ rfl hl.1 rfl (Nat.le_of_ble_eq_true rfl) rfl dX3_againstJudgement_5 (fun H locs hW hS => ?_)
  refine lv_istore_n (lv' := [(3, .int v5), (0, rf E b), (1, .int a0), (2, .int a1)]) hx hb dX3_againstJudgement_8 rfl hl (by decide) rfl (fun ls hl => ?_)
  refine lv_aload_n hx hb dX3_againstJudgement_9 rfl (lv_at hl 1 rfl) ?_
  refine gf_X3_21 hx hb hB hK hown hW hB_b dX3_againstJudgement_10 ?_
  refine lv_iload_n hx hb dX3_againstJudgement_13 rfl (lv_at hl 2 rfl) ?_
  obtain ⟨v14, e14, hf⟩ := ob2 hf
  refine c_V (As := [.int a0]) (st1 := [.int v14]) (rest := []) (p_X0_stageOf l E hB_b x m g o e14) (kc_X3_112 hB ⟨Nat.le_of_ble_eq_true rfl, Nat.le_of_ble_eq_true rfl⟩) (Wd.rec hK hW (hB_b.l8 (j := 7) (by decide)) (cB_7 hB_b) (ci := 0) rfl) hx hb hml hown hB hK hW hS ⟨Nat.le_refl 0, Nat.le_refl 0⟩ rfl hl.1 rfl (Nat.le_of_ble_eq_true rfl) rfl dX3_againstJudgement_14 (fun H locs hW hS => ?_)
  refine lv_iconst (v := 2) hx hb dX3_againstJudgement_17 (by decide) ?_
  refine lv_icmp_eq (tgt := 23) hx hb dX3_againstJudgement_18 (by decide) (fun c18 => ?_) (fun c18 => ?_)
  · rw [if_pos c18] at hf
    refine lv_aload_n hx hb dX3_againstJudgement_23 rfl (lv_at hl 1 rfl) ?_
    refine gf_X3_12 hx hb hB hK hown hW hB_b dX3_againstJudgement_24 ?_
    refine lv_iload_n hx hb dX3_againstJudgement_27 rfl (lv_at hl 0 rfl) ?_
    refine lv_iload_n hx hb dX3_againstJudgement_28 rfl (lv_at hl 3 rfl) ?_
    obtain ⟨v29, e29, hf⟩ := ob2 hf
    refine c_V (As := [.int v5, .int a1]) (st1 := [.int v29]) (rest := []) (p_X1_isOffered l E hB_b x m g o e29) (kc_X3_95 hB ⟨Nat.le_of_ble_eq_true rfl, Nat.le_of_ble_eq_true rfl⟩) (Wd.rec hK hW (hB_b.l8 (j := 1) (by decide)) (cB_1 hB_b) (ci := 1) rfl) hx hb hml hown hB hK hW hS ⟨Nat.le_refl 0, Nat.le_refl 0⟩ rfl hl.1 rfl (Nat.le_of_ble_eq_true rfl) rfl dX3_againstJudgement_29 (fun H locs hW hS => ?_)
    refine lv_if_ne (tgt := 37) hx hb dX3_againstJudgement_32 (by decide) (fun c32 => ?_) (fun c32 => ?_)
    · rw [if_neg c32] at hf
      refine lv_aload_n hx hb dX3_againstJudgement_37 rfl (lv_at hl 1 rfl) ?_
      refine gf_X3_12 hx hb hB hK hown hW hB_b dX3_againstJudgement_38 ?_
      refine lv_iload_n hx hb dX3_againstJudgement_41 rfl (lv_at hl 0 rfl) ?_
      refine lv_iload_n hx hb dX3_againstJudgement_42 rfl (lv_at hl 3 rfl) ?_
      refine lv_aload_n hx hb dX3_againstJudgement_43 rfl (lv_at hl 1 rfl) ?_
      refine gf_X3_21 hx hb hB hK hown hW hB_b dX3_againstJudgement_44 ?_
      refine lv_iload_n hx hb dX3_againstJudgement_47 rfl (lv_at hl 2 rfl) ?_
      obtain ⟨v48, e48, hf⟩ := ob2 hf
      refine c_V (As := [.int a0]) (st1 := [.int v48, .int a1, .int v5, rf E (b + 1)]) (rest := [.int a1, .int v5, rf E (b + 1)]) (p_X0_severityOf l E hB_b x m g o e48) (kc_X3_127 hB ⟨Nat.le_of_ble_eq_true rfl, Nat.le_of_ble_eq_true rfl⟩) (Wd.rec hK hW (hB_b.l8 (j := 7) (by decide)) (cB_7 hB_b) (ci := 0) rfl) hx hb hml hown hB hK hW hS ⟨Nat.le_refl 0, Nat.le_refl 0⟩ rfl hl.1 rfl (Nat.le_of_ble_eq_true rfl) rfl dX3_againstJudgement_48 (fun H locs hW hS => ?_)
      obtain ⟨v51, e51, hf⟩ := ob2 hf
      refine c_V (As := [.int v5, .int a1, .int v48]) (st1 := [.int v51]) (rest := []) (p_X1_covers l E hB_b x m g o e51) (kc_X3_130 hB ⟨Nat.le_of_ble_eq_true rfl, Nat.le_of_ble_eq_true rfl⟩) (Wd.rec hK hW (hB_b.l8 (j := 1) (by decide)) (cB_1 hB_b) (ci := 1) rfl) hx hb hml hown hB hK hW hS ⟨Nat.le_refl 0, Nat.le_refl 0⟩ rfl hl.1 rfl (Nat.le_of_ble_eq_true rfl) rfl dX3_againstJudgement_51 (fun H locs hW hS => ?_)
      refine lv_if_ne (tgt := 59) hx hb dX3_againstJudgement_54 (by decide) (fun c54 => ?_) (fun c54 => ?_)
      · rw [if_neg c54] at hf
        refine lv_aload_n hx hb dX3_againstJudgement_59 rfl (lv_at hl 1 rfl) ?_
        refine gf_X3_12 hx hb hB hK hown hW hB_b dX3_againstJudgement_60 ?_
        refine lv_iload_n hx hb dX3_againstJudgement_63 rfl (lv_at hl 0 rfl) ?_
        refine lv_iload_n hx hb dX3_againstJudgement_64 rfl (lv_at hl 3 rfl) ?_
        obtain ⟨v65, e65, hf⟩ := ob2 hf
        refine c_V (As := [.int v5, .int a1]) (st1 := [.int v65]) (rest := []) (p_X1_costOf l E hB_b x m g o e65) (kc_X3_137 hB ⟨Nat.le_of_ble_eq_true rfl, Nat.le_of_ble_eq_true rfl⟩) (Wd.rec hK hW (hB_b.l8 (j := 1) (by decide)) (cB_1 hB_b) (ci := 1) rfl) hx hb hml hown hB hK hW hS ⟨Nat.le_refl 0, Nat.le_refl 0⟩ rfl hl.1 rfl (Nat.le_of_ble_eq_true rfl) rfl dX3_againstJudgement_65 (fun H locs hW hS => ?_)
        refine lv_aload_n hx hb dX3_againstJudgement_68 rfl (lv_at hl 1 rfl) ?_
        refine gf_X3_21 hx hb hB hK hown hW hB_b dX3_againstJudgement_69 ?_
        refine lv_iload_n hx hb dX3_againstJudgement_72 rfl (lv_at hl 2 rfl) ?_
        obtain ⟨v73, e73, hf⟩ := ob2 hf
        refine c_V (As := [.int a0]) (st1 := [.int v73, .int v65]) (rest := [.int v65]) (p_X0_gotOf l E hB_b x m g o e73) (kc_X3_155 hB ⟨Nat.le_of_ble_eq_true rfl, Nat.le_of_ble_eq_true rfl⟩) (Wd.rec hK hW (hB_b.l8 (j := 7) (by decide)) (cB_7 hB_b) (ci := 0) rfl) hx hb hml hown hB hK hW hS ⟨Nat.le_refl 0, Nat.le_refl 0⟩ rfl hl.1 rfl (Nat.le_of_ble_eq_true rfl) rfl dX3_againstJudgement_73 (fun H locs hW hS => ?_)
        refine lv_isub hx hb dX3_againstJudgement_76 ?_
        obtain ⟨v77, e77, hf⟩ := ob hf
        refine lv_nm e77 ?_
        refine lv_istore (lv' := [(4, .int v77), (3, .int v5), (0, rf E b), (1, .int a0), (2, .int a1)]) hx hb dX3_againstJudgement_77 hl (by decide) rfl (fun ls hl => ?_)
        refine lv_iload hx hb dX3_againstJudgement_79 (lv_at hl 0 rfl) ?_
        refine lv_if_ge (tgt := 86) hx hb dX3_againstJudgement_81 (by decide) (fun c81 => ?_) (fun c81 => ?_)
        · rw [if_pos c81] at hf
          refine lv_iload hx hb dX3_againstJudgement_86 (lv_at hl 0 rfl) ?_
          refine lv_aload_n hx hb dX3_againstJudgement_88 rfl (lv_at hl 2 rfl) ?_
          refine lv_iload_n hx hb dX3_againstJudgement_89 rfl (lv_at hl 1 rfl) ?_
          obtain ⟨v90, e90, hf⟩ := ob2 hf
          refine c_V (As := [.int v5]) (st1 := [.int v90, .int v77]) (rest := [.int v77]) (p_X3_leftOf l E hB_b x m g o e90) (kc_X3_140 hB ⟨Nat.le_of_ble_eq_true rfl, Nat.le_of_ble_eq_true rfl⟩) (Wd.rec hK hW hB_b.l0 (cB_0 hB_b) (ci := 3) rfl) hx hb hml hown hB hK hW hS ⟨Nat.le_refl 0, Nat.le_refl 0⟩ rfl hl.1 rfl (Nat.le_of_ble_eq_true rfl) rfl dX3_againstJudgement_90 (fun H locs hW hS => ?_)
          refine lv_icmp_le (tgt := 100) hx hb dX3_againstJudgement_93 (by decide) (fun c93 => ?_) (fun c93 => ?_)
          · rw [if_pos c93] at hf
            refine lv_iconst (v := 0) hx hb dX3_againstJudgement_100 (by decide) ?_
            cases hf
            exact e_i hx hb hr hlk hW hS dX3_againstJudgement_101
          · rw [if_neg c93] at hf
            refine lv_iconst (v := 5) hx hb dX3_againstJudgement_96 (by decide) ?_
            refine lv_goto (tgt := 101) hx hb dX3_againstJudgement_97 (by decide) ?_
            cases hf
            exact e_i hx hb hr hlk hW hS dX3_againstJudgement_101
        · rw [if_neg c81] at hf
          refine lv_iconst (v := 4) hx hb dX3_againstJudgement_84 (by decide) ?_
          cases hf
          exact e_i hx hb hr hlk hW hS dX3_againstJudgement_85
      · rw [if_pos c54] at hf
        refine lv_iconst (v := 3) hx hb dX3_againstJudgement_57 (by decide) ?_
        cases hf
        exact e_i hx hb hr hlk hW hS dX3_againstJudgement_58
    · rw [if_pos c32] at hf
      refine lv_iconst (v := 2) hx hb dX3_againstJudgement_35 (by decide) ?_
      cases hf
      exact e_i hx hb hr hlk hW hS dX3_againstJudgement_36
  · rw [if_neg c18] at hf
    refine lv_iconst (v := 1) hx hb dX3_againstJudgement_21 (by decide) ?_
    cases hf
    exact e_i hx hb hr hlk hW hS dX3_againstJudgement_22
def f_X3_owedTo (b : Nat) (x : XS) (a0 : Int32) : Option (Int32) :=
    (f_X0_followedBy b x a0).bind fun v5 =>
    (f_X2_has b x v5).bind fun v14 =>
    if (v14 = 0 : Prop) then
      some 0
    else
      ((f_X0_kindOf b x a0).bind fun v31 =>
      (f_X2_amendsOf b x v5).bind fun v39 =>
      (f_X1_costOf b x v31 v39).bind fun v42 =>
      (f_X0_gotOf b x a0).bind fun v53 =>
      (some (if (0 < (v42 - v53) : Prop) then (v42 - v53) else 0)).bind fun v57 =>
      some v57)
set_option maxRecDepth 100000 in
set_option maxHeartbeats 4000000 in
theorem p_X3_owedTo (l : Launch) (E : TE) {b : Nat} (hB_b : IsB b) (x m : XS) (g o : Int64) {a0 : Int32} {r : Int32} (hf : f_X3_owedTo b x a0 = some r) : MG l E yX3_owedTo cX3_owedTo 4 (some .int) 3 [rf E b, .int a0] (Wd E x m g o) (Wd E x m g o) (some (.int r)) := by
  unfold f_X3_owedTo at hf
  refine m_in (by decide) (Nat.le_of_ble_eq_true rfl) ?_
  intro p e s mi args below meth c H ls hx hb hr hlk hml hown hB hK hW hS hl
  have hl : lv_has ls 4 [(0, rf E b), (1, .int a0)] := hl
  refine lv_aload_n hx hb dX3_owedTo_0 rfl (lv_at hl 0 rfl) ?_
  refine gf_X3_21 hx hb hB hK hown hW hB_b dX3_owedTo_1 ?_
  refine lv_iload_n hx hb dX3_owedTo_4 rfl (lv_at hl 1 rfl) ?_
  obtain ⟨v5, e5, hf⟩ := ob2 hf
  refine c_V (As := [.int a0]) (st1 := [.int v5]) (rest := []) (p_X0_followedBy l E hB_b x m g o e5) (kc_X3_115 hB ⟨Nat.le_of_ble_eq_true rfl, Nat.le_of_ble_eq_true rfl⟩) (Wd.rec hK hW (hB_b.l8 (j := 7) (by decide)) (cB_7 hB_b) (ci := 0) rfl) hx hb hml hown hB hK hW hS ⟨Nat.le_refl 0, Nat.le_refl 0⟩ rfl hl.1 rfl (Nat.le_of_ble_eq_true rfl) rfl dX3_owedTo_5 (fun H locs hW hS => ?_)
  refine lv_istore_n (lv' := [(2, .int v5), (0, rf E b), (1, .int a0)]) hx hb dX3_owedTo_8 rfl hl (by decide) rfl (fun ls hl => ?_)
  refine lv_aload_n hx hb dX3_owedTo_9 rfl (lv_at hl 1 rfl) ?_
  refine gf_X3_28 hx hb hB hK hown hW hB_b dX3_owedTo_10 ?_
  refine lv_iload_n hx hb dX3_owedTo_13 rfl (lv_at hl 0 rfl) ?_
  obtain ⟨v14, e14, hf⟩ := ob2 hf
  refine c_V (As := [.int v5]) (st1 := [.int v14]) (rest := []) (p_X2_has l E hB_b x m g o e14) (kc_X3_86 hB ⟨Nat.le_of_ble_eq_true rfl, Nat.le_of_ble_eq_true rfl⟩) (Wd.rec hK hW (hB_b.l8 (j := 17) (by decide)) (cB_17 hB_b) (ci := 2) rfl) hx hb hml hown hB hK hW hS ⟨Nat.le_refl 0, Nat.le_refl 0⟩ rfl hl.1 rfl (Nat.le_of_ble_eq_true rfl) rfl dX3_owedTo_14 (fun H locs hW hS => ?_)
  refine lv_if_ne (tgt := 22) hx hb dX3_owedTo_17 (by decide) (fun c17 => ?_) (fun c17 => ?_)
  · rw [if_neg c17] at hf
    refine lv_aload_n hx hb dX3_owedTo_22 rfl (lv_at hl 1 rfl) ?_
    refine gf_X3_12 hx hb hB hK hown hW hB_b dX3_owedTo_23 ?_
    refine lv_aload_n hx hb dX3_owedTo_26 rfl (lv_at hl 1 rfl) ?_
    refine gf_X3_21 hx hb hB hK hown hW hB_b dX3_owedTo_27 ?_
    refine lv_iload_n hx hb dX3_owedTo_30 rfl (lv_at hl 2 rfl) ?_
    obtain ⟨v31, e31, hf⟩ := ob2 hf
    refine c_V (As := [.int a0]) (st1 := [.int v31, rf E (b + 1)]) (rest := [rf E (b + 1)]) (p_X0_kindOf l E hB_b x m g o e31) (kc_X3_99 hB ⟨Nat.le_of_ble_eq_true rfl, Nat.le_of_ble_eq_true rfl⟩) (Wd.rec hK hW (hB_b.l8 (j := 7) (by decide)) (cB_7 hB_b) (ci := 0) rfl) hx hb hml hown hB hK hW hS ⟨Nat.le_refl 0, Nat.le_refl 0⟩ rfl hl.1 rfl (Nat.le_of_ble_eq_true rfl) rfl dX3_owedTo_31 (fun H locs hW hS => ?_)
    refine lv_aload_n hx hb dX3_owedTo_34 rfl (lv_at hl 1 rfl) ?_
    refine gf_X3_28 hx hb hB hK hown hW hB_b dX3_owedTo_35 ?_
    refine lv_iload_n hx hb dX3_owedTo_38 rfl (lv_at hl 0 rfl) ?_
    obtain ⟨v39, e39, hf⟩ := ob2 hf
    refine c_V (As := [.int v5]) (st1 := [.int v39, .int v31, rf E (b + 1)]) (rest := [.int v31, rf E (b + 1)]) (p_X2_amendsOf l E hB_b x m g o e39) (kc_X3_92 hB ⟨Nat.le_of_ble_eq_true rfl, Nat.le_of_ble_eq_true rfl⟩) (Wd.rec hK hW (hB_b.l8 (j := 17) (by decide)) (cB_17 hB_b) (ci := 2) rfl) hx hb hml hown hB hK hW hS ⟨Nat.le_refl 0, Nat.le_refl 0⟩ rfl hl.1 rfl (Nat.le_of_ble_eq_true rfl) rfl dX3_owedTo_39 (fun H locs hW hS => ?_)
    obtain ⟨v42, e42, hf⟩ := ob2 hf
    refine c_V (As := [.int v31, .int v39]) (st1 := [.int v42]) (rest := []) (p_X1_costOf l E hB_b x m g o e42) (kc_X3_137 hB ⟨Nat.le_of_ble_eq_true rfl, Nat.le_of_ble_eq_true rfl⟩) (Wd.rec hK hW (hB_b.l8 (j := 1) (by decide)) (cB_1 hB_b) (ci := 1) rfl) hx hb hml hown hB hK hW hS ⟨Nat.le_refl 0, Nat.le_refl 0⟩ rfl hl.1 rfl (Nat.le_of_ble_eq_true rfl) rfl dX3_owedTo_42 (fun H locs hW hS => ?_)
    refine lv_istore_n (lv' := [(3, .int v42), (2, .int v5), (0, rf E b), (1, .int a0)]) hx hb dX3_owedTo_45 rfl hl (by decide) rfl (fun ls hl => ?_)
    refine lv_iconst (v := 0) hx hb dX3_owedTo_46 (by decide) ?_
    refine lv_iload_n hx hb dX3_owedTo_47 rfl (lv_at hl 0 rfl) ?_
    refine lv_aload_n hx hb dX3_owedTo_48 rfl (lv_at hl 2 rfl) ?_
    refine gf_X3_21 hx hb hB hK hown hW hB_b dX3_owedTo_49 ?_
    refine lv_iload_n hx hb dX3_owedTo_52 rfl (lv_at hl 3 rfl) ?_
    obtain ⟨v53, e53, hf⟩ := ob2 hf
    refine c_V (As := [.int a0]) (st1 := [.int v53, .int v42, .int 0]) (rest := [.int v42, .int 0]) (p_X0_gotOf l E hB_b x m g o e53) (kc_X3_155 hB ⟨Nat.le_of_ble_eq_true rfl, Nat.le_of_ble_eq_true rfl⟩) (Wd.rec hK hW (hB_b.l8 (j := 7) (by decide)) (cB_7 hB_b) (ci := 0) rfl) hx hb hml hown hB hK hW hS ⟨Nat.le_refl 0, Nat.le_refl 0⟩ rfl hl.1 rfl (Nat.le_of_ble_eq_true rfl) rfl dX3_owedTo_53 (fun H locs hW hS => ?_)
    refine lv_isub hx hb dX3_owedTo_56 ?_
    obtain ⟨v57, e57, hf⟩ := ob hf
    refine va_mmax hx hb (hml.trans hl.1.symm) hown (hB _ q_307) (hB _ q_308) (hB _ q_64) (hB _ q_309) (Nat.le_of_ble_eq_true rfl) (Nat.le_of_ble_eq_true rfl) (Nat.le_refl 0) (Nat.le_refl 0) dX3_owedTo_57 ?_
    refine lv_nm e57 ?_
    cases hf
    exact e_i hx hb hr hlk hW hS dX3_owedTo_60
  · rw [if_pos c17] at hf
    refine lv_iconst (v := 0) hx hb dX3_owedTo_20 (by decide) ?_
    cases hf
    exact e_i hx hb hr hlk hW hS dX3_owedTo_21
def f_X3_topUp (b : Nat) (x : XS) (a0 : Int32) : Option (Int32 × XS) :=
    (f_X3_owedTo b x a0).bind fun v2 =>
    if (v2 = 0 : Prop) then
      some (0, x)
    else
      ((f_X0_kindOf b x a0).bind fun v17 =>
      (f_X3_leftOf b x v17).bind fun v20 =>
      if (v2 ≤ v20 : Prop) then
        ((f_X0_followedBy b x a0).bind fun v39 =>
        (f_X2_amendsOf b x v39).bind fun v42 =>
        (f_X3_hand b x a0 v42).bind fun x45 =>
        some (v2, x45))
      else
        some (0, x))
set_option maxRecDepth 100000 in
set_option maxHeartbeats 4000000 in
theorem p_X3_topUp (l : Launch) (E : TE) {b : Nat} (hB_b : IsB b) (x m : XS) (g o : Int64) {a0 : Int32} {r : Int32} {xr : XS} (hf : f_X3_topUp b x a0 = some (r, xr)) : MG l E yX3_topUp cX3_topUp 3 (some .int) 4 [rf E b, .int a0] (Wd E x m g o) (Wd E xr m g o) (some (.int r)) := by
  unfold f_X3_topUp at hf
  refine m_in (by decide) (Nat.le_of_ble_eq_true rfl) ?_
  intro p e s mi args below meth c H ls hx hb hr hlk hml hown hB hK hW hS hl
  have hl : lv_has ls 3 [(0, rf E b), (1, .int a0)] := hl
  refine lv_aload_n hx hb dX3_topUp_0 rfl (lv_at hl 0 rfl) ?_
  refine lv_iload_n hx hb dX3_topUp_1 rfl (lv_at hl 1 rfl) ?_
  obtain ⟨v2, e2, hf⟩ := ob2 hf
  refine c_V (As := [.int a0]) (st1 := [.int v2]) (rest := []) (p_X3_owedTo l E hB_b x m g o e2) (kc_X3_177 hB ⟨Nat.le_of_ble_eq_true rfl, Nat.le_of_ble_eq_true rfl⟩) (Wd.rec hK hW hB_b.l0 (cB_0 hB_b) (ci := 3) rfl) hx hb hml hown hB hK hW hS ⟨Nat.le_refl 0, Nat.le_refl 0⟩ rfl hl.1 rfl (Nat.le_of_ble_eq_true rfl) rfl dX3_topUp_2 (fun H locs hW hS => ?_)
  refine lv_istore_n (lv' := [(2, .int v2), (0, rf E b), (1, .int a0)]) hx hb dX3_topUp_5 rfl hl (by decide) rfl (fun ls hl => ?_)
  refine lv_iload_n hx hb dX3_topUp_6 rfl (lv_at hl 0 rfl) ?_
  refine lv_if_eq (tgt := 26) hx hb dX3_topUp_7 (by decide) (fun c7 => ?_) (fun c7 => ?_)
  · rw [if_pos c7] at hf
    refine lv_iconst (v := 0) hx hb dX3_topUp_26 (by decide) ?_
    cases hf
    exact e_i hx hb hr hlk hW hS dX3_topUp_27
  · rw [if_neg c7] at hf
    refine lv_iload_n hx hb dX3_topUp_10 rfl (lv_at hl 0 rfl) ?_
    refine lv_aload_n hx hb dX3_topUp_11 rfl (lv_at hl 1 rfl) ?_
    refine lv_aload_n hx hb dX3_topUp_12 rfl (lv_at hl 1 rfl) ?_
    refine gf_X3_21 hx hb hB hK hown hW hB_b dX3_topUp_13 ?_
    refine lv_iload_n hx hb dX3_topUp_16 rfl (lv_at hl 2 rfl) ?_
    obtain ⟨v17, e17, hf⟩ := ob2 hf
    refine c_V (As := [.int a0]) (st1 := [.int v17, rf E b, .int v2]) (rest := [rf E b, .int v2]) (p_X0_kindOf l E hB_b x m g o e17) (kc_X3_99 hB ⟨Nat.le_of_ble_eq_true rfl, Nat.le_of_ble_eq_true rfl⟩) (Wd.rec hK hW (hB_b.l8 (j := 7) (by decide)) (cB_7 hB_b) (ci := 0) rfl) hx hb hml hown hB hK hW hS ⟨Nat.le_refl 0, Nat.le_refl 0⟩ rfl hl.1 rfl (Nat.le_of_ble_eq_true rfl) rfl dX3_topUp_17 (fun H locs hW hS => ?_)
    obtain ⟨v20, e20, hf⟩ := ob2 hf
    refine c_V (As := [.int v17]) (st1 := [.int v20, .int v2]) (rest := [.int v2]) (p_X3_leftOf l E hB_b x m g o e20) (kc_X3_140 hB ⟨Nat.le_of_ble_eq_true rfl, Nat.le_of_ble_eq_true rfl⟩) (Wd.rec hK hW hB_b.l0 (cB_0 hB_b) (ci := 3) rfl) hx hb hml hown hB hK hW hS ⟨Nat.le_refl 0, Nat.le_refl 0⟩ rfl hl.1 rfl (Nat.le_of_ble_eq_true rfl) rfl dX3_topUp_20 (fun H locs hW hS => ?_)
    refine lv_icmp_le (tgt := 28) hx hb dX3_topUp_23 (by decide) (fun c23 => ?_) (fun c23 => ?_)
    · rw [if_pos c23] at hf
      refine lv_aload_n hx hb dX3_topUp_28 rfl (lv_at hl 1 rfl) ?_
      refine lv_iload_n hx hb dX3_topUp_29 rfl (lv_at hl 2 rfl) ?_
      refine lv_aload_n hx hb dX3_topUp_30 rfl (lv_at hl 1 rfl) ?_
      refine gf_X3_28 hx hb hB hK hown hW hB_b dX3_topUp_31 ?_
      refine lv_aload_n hx hb dX3_topUp_34 rfl (lv_at hl 1 rfl) ?_
      refine gf_X3_21 hx hb hB hK hown hW hB_b dX3_topUp_35 ?_
      refine lv_iload_n hx hb dX3_topUp_38 rfl (lv_at hl 2 rfl) ?_
      obtain ⟨v39, e39, hf⟩ := ob2 hf
      refine c_V (As := [.int a0]) (st1 := [.int v39, rf E (b + 17), .int a0, rf E b]) (rest := [rf E (b + 17), .int a0, rf E b]) (p_X0_followedBy l E hB_b x m g o e39) (kc_X3_115 hB ⟨Nat.le_of_ble_eq_true rfl, Nat.le_of_ble_eq_true rfl⟩) (Wd.rec hK hW (hB_b.l8 (j := 7) (by decide)) (cB_7 hB_b) (ci := 0) rfl) hx hb hml hown hB hK hW hS ⟨Nat.le_refl 0, Nat.le_refl 0⟩ rfl hl.1 rfl (Nat.le_of_ble_eq_true rfl) rfl dX3_topUp_39 (fun H locs hW hS => ?_)
      obtain ⟨v42, e42, hf⟩ := ob2 hf
      refine c_V (As := [.int v39]) (st1 := [.int v42, .int a0, rf E b]) (rest := [.int a0, rf E b]) (p_X2_amendsOf l E hB_b x m g o e42) (kc_X3_92 hB ⟨Nat.le_of_ble_eq_true rfl, Nat.le_of_ble_eq_true rfl⟩) (Wd.rec hK hW (hB_b.l8 (j := 17) (by decide)) (cB_17 hB_b) (ci := 2) rfl) hx hb hml hown hB hK hW hS ⟨Nat.le_refl 0, Nat.le_refl 0⟩ rfl hl.1 rfl (Nat.le_of_ble_eq_true rfl) rfl dX3_topUp_42 (fun H locs hW hS => ?_)
      obtain ⟨x45, e45, hf⟩ := ob2 hf
      refine c_V (As := [.int a0, .int v42]) (st1 := []) (rest := []) (p_X3_hand l E hB_b x m g o e45) (kc_X3_143 hB ⟨Nat.le_of_ble_eq_true rfl, Nat.le_of_ble_eq_true rfl⟩) (Wd.rec hK hW hB_b.l0 (cB_0 hB_b) (ci := 3) rfl) hx hb hml hown hB hK hW hS ⟨Nat.le_refl 0, Nat.le_refl 0⟩ rfl hl.1 rfl (Nat.le_of_ble_eq_true rfl) rfl dX3_topUp_45 (fun H locs hW hS => ?_)
      refine lv_iload_n hx hb dX3_topUp_48 rfl (lv_at hl 0 rfl) ?_
      cases hf
      exact e_i hx hb hr hlk hW hS dX3_topUp_49
    · rw [if_neg c23] at hf
      refine lv_iconst (v := 0) hx hb dX3_topUp_26 (by decide) ?_
      cases hf
      exact e_i hx hb hr hlk hW hS dX3_topUp_27
def f_X3_makeJudgement_129 (b : Nat) (k91 : XS → Int32 → Int32 → Int32 → Option (Int32 × XS)) (x129 : XS) (l4_129 : Int32) (l6_129 : Int32) (l7_129 : Int32) : Option (Int32 × XS) :=
    (some (l7_129 + 1)).bind fun v129 =>
    k91 x129 l4_129 l6_129 v129
def f_X3_makeJudgement_91 (b : Nat) : Nat → XS → Int32 → Int32 → Int32 → Option (Int32 × XS)
  | 0, _, _, _, _ => none
  | n91 + 1, x91, l4_91, l6_91, l7_91 =>
    if ((x91 (b + 7) 0) ≤ l7_91 : Prop) then
      some (l6_91, x91)
    else
      ((f_X0_followedBy b x91 l7_91).bind fun v109 =>
      if (v109 = l4_91 : Prop) then
        ((f_X3_topUp b x91 l7_91).bind fun q120 => (fun v120 x120 =>
        if (v120 ≤ 0 : Prop) then
          f_X3_makeJudgement_129 b (f_X3_makeJudgement_91 b n91) x120 l4_91 l6_91 l7_91
        else
          ((some (l6_91 + 1)).bind fun v126 =>
          f_X3_makeJudgement_129 b (f_X3_makeJudgement_91 b n91) x120 l4_91 v126 l7_91)) q120.1 q120.2)
      else
        f_X3_makeJudgement_129 b (f_X3_makeJudgement_91 b n91) x91 l4_91 l6_91 l7_91)
def f_X3_makeJudgement (b : Nat) (x : XS) (a0 : Int32) (a1 : Int32) : Option (Int32 × XS) :=
    (f_X3_hand b x a0 a1).bind fun x3 =>
    (f_X0_changeStage b x3 a0 3).bind fun x12 =>
    (f_X0_kindOf b x12 a0).bind fun v20 =>
    (f_X0_followedBy b x12 a0).bind fun v29 =>
    (f_X2_amendsOf b x12 v29).bind fun v45 =>
    (f_X1_costOf b x12 v20 v45).bind fun v48 =>
    if (v29 = (-1) : Prop) then
      some (0, x12)
    else
      ((f_X1_costOf b x12 v20 a1).bind fun v65 =>
      if (v48 < v65 : Prop) then
        ((f_X2_raise b x12 v29 a1).bind fun x82 =>
        f_X3_makeJudgement_91 b 4096 x82 v29 0 0)
      else
        some (0, x12))
set_option maxRecDepth 100000 in
set_option maxHeartbeats 4000000 in
theorem p_X3_makeJudgement (l : Launch) (E : TE) {b : Nat} (hB_b : IsB b) (x m : XS) (g o : Int64) {a0 : Int32} {a1 : Int32} {r : Int32} {xr : XS} (hf : f_X3_makeJudgement b x a0 a1 = some (r, xr)) : MG l E yX3_makeJudgement cX3_makeJudgement 8 (some .int) 5 [rf E b, .int a0, .int a1] (Wd E x m g o) (Wd E xr m g o) (some (.int r)) := by
  unfold f_X3_makeJudgement at hf
  refine m_in (by decide) (Nat.le_of_ble_eq_true rfl) ?_
  intro p e s mi args below meth c H ls hx hb hr hlk hml hown hB hK hW hS hl
  have hl : lv_has ls 8 [(0, rf E b), (1, .int a0), (2, .int a1)] := hl
  have J91 : ∀ (n91 : Nat), ∀ (x91 : XS) (l4_91 : Int32) (l6_91 : Int32) (l7_91 : Int32) (H : Heap) (locs : List Loc) (ls : Array Slot), f_X3_makeJudgement_91 b n91 x91 l4_91 l6_91 l7_91 = some (r, xr) → Wd E x91 m g o H → va_S (Ah E) s.heap H locs → lv_has ls 8 [(0, rf E b), (4, .int l4_91), (6, .int l6_91), (7, .int l7_91)] → W p l e (rmH 5) s mi args below meth c H locs 0 0 (EQ E below args s (Wd E xr m g o) (some (.int r))) (F0 mi 91 ls []) := by
    intro n91
    induction n91 with
    | zero => intro x91 l4_91 l6_91 l7_91 H locs ls hf; exact absurd hf (fun z => nomatch (show (none : Option (Int32 × XS)) = some _ from z))
    | succ n91 ih91 =>
      intro x91 l4_91 l6_91 l7_91 H locs ls hf hW hS hl
      rw [f_X3_makeJudgement_91.eq_2] at hf
      have J129 : ∀ (x129 : XS) (l4_129 : Int32) (l6_129 : Int32) (l7_129 : Int32) (H : Heap) (locs : List Loc) (ls : Array Slot), f_X3_makeJudgement_129 b (f_X3_makeJudgement_91 b n91) x129 l4_129 l6_129 l7_129 = some (r, xr) → Wd E x129 m g o H → va_S (Ah E) s.heap H locs → lv_has ls 8 [(0, rf E b), (4, .int l4_129), (6, .int l6_129), (7, .int l7_129)] → W p l e (rmH 5) s mi args below meth c H locs 0 0 (EQ E below args s (Wd E xr m g o) (some (.int r))) (F0 mi 129 ls []) := by
        intro x129 l4_129 l6_129 l7_129 H locs ls hf hW hS hl
        unfold f_X3_makeJudgement_129 at hf
        obtain ⟨v129, e129, hf⟩ := ob hf
        refine lv_iinc (v := v129) (lv' := [(7, .int v129), (0, rf E b), (4, .int l4_129), (6, .int l6_129)]) hx hb dX3_makeJudgement_129 hl (k := 3) rfl (by rw [e129]; rfl) (by decide) rfl (fun ls hl => ?_)
        refine lv_goto (tgt := 91) hx hb dX3_makeJudgement_132 (by decide) ?_
        exact ih91 x129 l4_129 l6_129 v129 _ _ _ hf hW hS (lv_sub hl [1, 2, 3, 0] rfl)
      refine lv_iload hx hb dX3_makeJudgement_91 (lv_at hl 3 rfl) ?_
      refine lv_aload_n hx hb dX3_makeJudgement_93 rfl (lv_at hl 0 rfl) ?_
      refine gf_X3_21 hx hb hB hK hown hW hB_b dX3_makeJudgement_94 ?_
      refine gf_X3_121 hx hb hB hK hown hW hB_b dX3_makeJudgement_97 ?_
      refine lv_icmp_ge (tgt := 135) hx hb dX3_makeJudgement_100 (by decide) (fun c100 => ?_) (fun c100 => ?_)
      · rw [if_pos c100] at hf
        refine lv_iload hx hb dX3_makeJudgement_135 (lv_at hl 2 rfl) ?_
        cases hf
        exact e_i hx hb hr hlk hW hS dX3_makeJudgement_137
      · rw [if_neg c100] at hf
        refine lv_aload_n hx hb dX3_makeJudgement_103 rfl (lv_at hl 0 rfl) ?_
        refine gf_X3_21 hx hb hB hK hown hW hB_b dX3_makeJudgement_104 ?_
        refine lv_iload hx hb dX3_makeJudgement_107 (lv_at hl 3 rfl) ?_
        obtain ⟨v109, e109, hf⟩ := ob2 hf
        refine c_V (As := [.int l7_91]) (st1 := [.int v109]) (rest := []) (p_X0_followedBy l E hB_b x91 m g o e109) (kc_X3_115 hB ⟨Nat.le_of_ble_eq_true rfl, Nat.le_of_ble_eq_true rfl⟩) (Wd.rec hK hW (hB_b.l8 (j := 7) (by decide)) (cB_7 hB_b) (ci := 0) rfl) hx hb hml hown hB hK hW hS ⟨Nat.le_refl 0, Nat.le_refl 0⟩ rfl hl.1 rfl (Nat.le_of_ble_eq_true rfl) rfl dX3_makeJudgement_109 (fun H locs hW hS => ?_)
        refine lv_iload hx hb dX3_makeJudgement_112 (lv_at hl 1 rfl) ?_
        refine lv_icmp_ne (tgt := 129) hx hb dX3_makeJudgement_114 (by decide) (fun c114 => ?_) (fun c114 => ?_)
        · rw [if_neg c114] at hf
          exact J129 x91 l4_91 l6_91 l7_91 _ _ _ hf hW hS (lv_sub hl [0, 1, 2, 3] rfl)
        · rw [if_pos c114] at hf
          refine lv_aload_n hx hb dX3_makeJudgement_117 rfl (lv_at hl 0 rfl) ?_
          refine lv_iload hx hb dX3_makeJudgement_118 (lv_at hl 3 rfl) ?_
          obtain ⟨⟨v120, x120⟩, e120, hf⟩ := ob2 hf
          dsimp only at hf
          refine c_V (As := [.int l7_91]) (st1 := [.int v120]) (rest := []) (p_X3_topUp l E hB_b x91 m g o e120) (kc_X3_169 hB ⟨Nat.le_of_ble_eq_true rfl, Nat.le_of_ble_eq_true rfl⟩) (Wd.rec hK hW hB_b.l0 (cB_0 hB_b) (ci := 3) rfl) hx hb hml hown hB hK hW hS ⟨Nat.le_refl 0, Nat.le_refl 0⟩ rfl hl.1 rfl (Nat.le_of_ble_eq_true rfl) rfl dX3_makeJudgement_120 (fun H locs hW hS => ?_)
          refine lv_if_le (tgt := 129) hx hb dX3_makeJudgement_123 (by decide) (fun c123 => ?_) (fun c123 => ?_)
          · rw [if_pos c123] at hf
            exact J129 x120 l4_91 l6_91 l7_91 _ _ _ hf hW hS (lv_sub hl [0, 1, 2, 3] rfl)
          · rw [if_neg c123] at hf
            obtain ⟨v126, e126, hf⟩ := ob hf
            refine lv_iinc (v := v126) (lv' := [(6, .int v126), (0, rf E b), (4, .int l4_91), (7, .int l7_91)]) hx hb dX3_makeJudgement_126 hl (k := 2) rfl (by rw [e126]; rfl) (by decide) rfl (fun ls hl => ?_)
            exact J129 x120 l4_91 v126 l7_91 _ _ _ hf hW hS (lv_sub hl [1, 2, 0, 3] rfl)
  refine lv_aload_n hx hb dX3_makeJudgement_0 rfl (lv_at hl 0 rfl) ?_
  refine lv_iload_n hx hb dX3_makeJudgement_1 rfl (lv_at hl 1 rfl) ?_
  refine lv_iload_n hx hb dX3_makeJudgement_2 rfl (lv_at hl 2 rfl) ?_
  obtain ⟨x3, e3, hf⟩ := ob2 hf
  refine c_V (As := [.int a0, .int a1]) (st1 := []) (rest := []) (p_X3_hand l E hB_b x m g o e3) (kc_X3_143 hB ⟨Nat.le_of_ble_eq_true rfl, Nat.le_of_ble_eq_true rfl⟩) (Wd.rec hK hW hB_b.l0 (cB_0 hB_b) (ci := 3) rfl) hx hb hml hown hB hK hW hS ⟨Nat.le_refl 0, Nat.le_refl 0⟩ rfl hl.1 rfl (Nat.le_of_ble_eq_true rfl) rfl dX3_makeJudgement_3 (fun H locs hW hS => ?_)
  refine lv_aload_n hx hb dX3_makeJudgement_6 rfl (lv_at hl 0 rfl) ?_
  refine gf_X3_21 hx hb hB hK hown hW hB_b dX3_makeJudgement_7 ?_
  refine lv_iload_n hx hb dX3_makeJudgement_10 rfl (lv_at hl 1 rfl) ?_
  refine lv_iconst (v := 3) hx hb dX3_makeJudgement_11 (by decide) ?_
  obtain ⟨x12, e12, hf⟩ := ob2 hf
  refine c_V (As := [.int a0, .int 3]) (st1 := []) (rest := []) (p_X0_changeStage l E hB_b x3 m g o e12) (kc_X3_163 hB ⟨Nat.le_of_ble_eq_true rfl, Nat.le_of_ble_eq_true rfl⟩) (Wd.rec hK hW (hB_b.l8 (j := 7) (by decide)) (cB_7 hB_b) (ci := 0) rfl) hx hb hml hown hB hK hW hS ⟨Nat.le_refl 0, Nat.le_refl 0⟩ rfl hl.1 rfl (Nat.le_of_ble_eq_true rfl) rfl dX3_makeJudgement_12 (fun H locs hW hS => ?_)
  refine lv_aload_n hx hb dX3_makeJudgement_15 rfl (lv_at hl 0 rfl) ?_
  refine gf_X3_21 hx hb hB hK hown hW hB_b dX3_makeJudgement_16 ?_
  refine lv_iload_n hx hb dX3_makeJudgement_19 rfl (lv_at hl 1 rfl) ?_
  obtain ⟨v20, e20, hf⟩ := ob2 hf
  refine c_V (As := [.int a0]) (st1 := [.int v20]) (rest := []) (p_X0_kindOf l E hB_b x12 m g o e20) (kc_X3_99 hB ⟨Nat.le_of_ble_eq_true rfl, Nat.le_of_ble_eq_true rfl⟩) (Wd.rec hK hW (hB_b.l8 (j := 7) (by decide)) (cB_7 hB_b) (ci := 0) rfl) hx hb hml hown hB hK hW hS ⟨Nat.le_refl 0, Nat.le_refl 0⟩ rfl hl.1 rfl (Nat.le_of_ble_eq_true rfl) rfl dX3_makeJudgement_20 (fun H locs hW hS => ?_)
  refine lv_istore_n (lv' := [(3, .int v20), (0, rf E b), (1, .int a0), (2, .int a1)]) hx hb dX3_makeJudgement_23 rfl hl (by decide) rfl (fun ls hl => ?_)
  refine lv_aload_n hx hb dX3_makeJudgement_24 rfl (lv_at hl 1 rfl) ?_
  refine gf_X3_21 hx hb hB hK hown hW hB_b dX3_makeJudgement_25 ?_
  refine lv_iload_n hx hb dX3_makeJudgement_28 rfl (lv_at hl 2 rfl) ?_
  obtain ⟨v29, e29, hf⟩ := ob2 hf
  refine c_V (As := [.int a0]) (st1 := [.int v29]) (rest := []) (p_X0_followedBy l E hB_b x12 m g o e29) (kc_X3_115 hB ⟨Nat.le_of_ble_eq_true rfl, Nat.le_of_ble_eq_true rfl⟩) (Wd.rec hK hW (hB_b.l8 (j := 7) (by decide)) (cB_7 hB_b) (ci := 0) rfl) hx hb hml hown hB hK hW hS ⟨Nat.le_refl 0, Nat.le_refl 0⟩ rfl hl.1 rfl (Nat.le_of_ble_eq_true rfl) rfl dX3_makeJudgement_29 (fun H locs hW hS => ?_)
  refine lv_istore (lv' := [(4, .int v29), (3, .int v20), (0, rf E b), (1, .int a0), (2, .int a1)]) hx hb dX3_makeJudgement_32 hl (by decide) rfl (fun ls hl => ?_)
  refine lv_aload_n hx hb dX3_makeJudgement_34 rfl (lv_at hl 2 rfl) ?_
  refine gf_X3_12 hx hb hB hK hown hW hB_b dX3_makeJudgement_35 ?_
  refine lv_iload_n hx hb dX3_makeJudgement_38 rfl (lv_at hl 1 rfl) ?_
  refine lv_aload_n hx hb dX3_makeJudgement_39 rfl (lv_at hl 2 rfl) ?_
  refine gf_X3_28 hx hb hB hK hown hW hB_b dX3_makeJudgement_40 ?_
  refine lv_iload hx hb dX3_makeJudgement_43 (lv_at hl 0 rfl) ?_
  obtain ⟨v45, e45, hf⟩ := ob2 hf
  refine c_V (As := [.int v29]) (st1 := [.int v45, .int v20, rf E (b + 1)]) (rest := [.int v20, rf E (b + 1)]) (p_X2_amendsOf l E hB_b x12 m g o e45) (kc_X3_92 hB ⟨Nat.le_of_ble_eq_true rfl, Nat.le_of_ble_eq_true rfl⟩) (Wd.rec hK hW (hB_b.l8 (j := 17) (by decide)) (cB_17 hB_b) (ci := 2) rfl) hx hb hml hown hB hK hW hS ⟨Nat.le_refl 0, Nat.le_refl 0⟩ rfl hl.1 rfl (Nat.le_of_ble_eq_true rfl) rfl dX3_makeJudgement_45 (fun H locs hW hS => ?_)
  obtain ⟨v48, e48, hf⟩ := ob2 hf
  refine c_V (As := [.int v20, .int v45]) (st1 := [.int v48]) (rest := []) (p_X1_costOf l E hB_b x12 m g o e48) (kc_X3_137 hB ⟨Nat.le_of_ble_eq_true rfl, Nat.le_of_ble_eq_true rfl⟩) (Wd.rec hK hW (hB_b.l8 (j := 1) (by decide)) (cB_1 hB_b) (ci := 1) rfl) hx hb hml hown hB hK hW hS ⟨Nat.le_refl 0, Nat.le_refl 0⟩ rfl hl.1 rfl (Nat.le_of_ble_eq_true rfl) rfl dX3_makeJudgement_48 (fun H locs hW hS => ?_)
  refine lv_istore (lv' := [(5, .int v48), (4, .int v29), (3, .int v20), (0, rf E b), (1, .int a0), (2, .int a1)]) hx hb dX3_makeJudgement_51 hl (by decide) rfl (fun ls hl => ?_)
  refine lv_iload hx hb dX3_makeJudgement_53 (lv_at hl 1 rfl) ?_
  refine lv_iconst (v := (-1)) hx hb dX3_makeJudgement_55 (by decide) ?_
  refine lv_icmp_eq (tgt := 73) hx hb dX3_makeJudgement_56 (by decide) (fun c56 => ?_) (fun c56 => ?_)
  · rw [if_pos c56] at hf
    refine lv_iconst (v := 0) hx hb dX3_makeJudgement_73 (by decide) ?_
    cases hf
    exact e_i hx hb hr hlk hW hS dX3_makeJudgement_74
  · rw [if_neg c56] at hf
    refine lv_aload_n hx hb dX3_makeJudgement_59 rfl (lv_at hl 3 rfl) ?_
    refine gf_X3_12 hx hb hB hK hown hW hB_b dX3_makeJudgement_60 ?_
    refine lv_iload_n hx hb dX3_makeJudgement_63 rfl (lv_at hl 2 rfl) ?_
    refine lv_iload_n hx hb dX3_makeJudgement_64 rfl (lv_at hl 5 rfl) ?_
    obtain ⟨v65, e65, hf⟩ := ob2 hf
    refine c_V (As := [.int v20, .int a1]) (st1 := [.int v65]) (rest := []) (p_X1_costOf l E hB_b x12 m g o e65) (kc_X3_137 hB ⟨Nat.le_of_ble_eq_true rfl, Nat.le_of_ble_eq_true rfl⟩) (Wd.rec hK hW (hB_b.l8 (j := 1) (by decide)) (cB_1 hB_b) (ci := 1) rfl) hx hb hml hown hB hK hW hS ⟨Nat.le_refl 0, Nat.le_refl 0⟩ rfl hl.1 rfl (Nat.le_of_ble_eq_true rfl) rfl dX3_makeJudgement_65 (fun H locs hW hS => ?_)
    refine lv_iload hx hb dX3_makeJudgement_68 (lv_at hl 0 rfl) ?_
    refine lv_icmp_gt (tgt := 75) hx hb dX3_makeJudgement_70 (by decide) (fun c70 => ?_) (fun c70 => ?_)
    · rw [if_pos c70] at hf
      refine lv_aload_n hx hb dX3_makeJudgement_75 rfl (lv_at hl 3 rfl) ?_
      refine gf_X3_28 hx hb hB hK hown hW hB_b dX3_makeJudgement_76 ?_
      refine lv_iload hx hb dX3_makeJudgement_79 (lv_at hl 1 rfl) ?_
      refine lv_iload_n hx hb dX3_makeJudgement_81 rfl (lv_at hl 5 rfl) ?_
      obtain ⟨x82, e82, hf⟩ := ob2 hf
      refine c_V (As := [.int v29, .int a1]) (st1 := []) (rest := []) (p_X2_raise l E hB_b x12 m g o e82) (kc_X3_166 hB ⟨Nat.le_of_ble_eq_true rfl, Nat.le_of_ble_eq_true rfl⟩) (Wd.rec hK hW (hB_b.l8 (j := 17) (by decide)) (cB_17 hB_b) (ci := 2) rfl) hx hb hml hown hB hK hW hS ⟨Nat.le_refl 0, Nat.le_refl 0⟩ rfl hl.1 rfl (Nat.le_of_ble_eq_true rfl) rfl dX3_makeJudgement_82 (fun H locs hW hS => ?_)
      refine lv_iconst (v := 0) hx hb dX3_makeJudgement_85 (by decide) ?_
      refine lv_istore (lv' := [(6, .int 0), (5, .int v48), (4, .int v29), (3, .int v20), (0, rf E b), (1, .int a0), (2, .int a1)]) hx hb dX3_makeJudgement_86 hl (by decide) rfl (fun ls hl => ?_)
      refine lv_iconst (v := 0) hx hb dX3_makeJudgement_88 (by decide) ?_
      refine lv_istore (lv' := [(7, .int 0), (6, .int 0), (5, .int v48), (4, .int v29), (3, .int v20), (0, rf E b), (1, .int a0), (2, .int a1)]) hx hb dX3_makeJudgement_89 hl (by decide) rfl (fun ls hl => ?_)
      exact J91 4096 x82 v29 0 0 _ _ _ hf hW hS (lv_sub hl [5, 3, 1, 0] rfl)
    · rw [if_neg c70] at hf
      refine lv_iconst (v := 0) hx hb dX3_makeJudgement_73 (by decide) ?_
      cases hf
      exact e_i hx hb hr hlk hW hS dX3_makeJudgement_74
def f_X3_turnMonth_61 (b : Nat) : Nat → XS → Int32 → Int32 → Option (Int32 × XS)
  | 0, _, _, _ => none
  | n61 + 1, x61, l1_61, l2_61 =>
    if ((x61 (b + 7) 0) ≤ l2_61 : Prop) then
      some (l1_61, x61)
    else
      ((f_X3_topUp b x61 l2_61).bind fun q75 => (fun v75 x75 =>
      (some ((l1_61 + v75))).bind fun v79 =>
      (some (l2_61 + 1)).bind fun v80 =>
      f_X3_turnMonth_61 b n61 x75 v79 v80) q75.1 q75.2)
def f_X3_turnMonth_12 (b : Nat) : Nat → XS → Int32 → Option (Int32 × XS)
  | 0, _, _ => none
  | n12 + 1, x12, l1_12 =>
    if (4 ≤ l1_12 : Prop) then
      f_X3_turnMonth_61 b 4096 x12 0 0
    else
      ((aget 4 (x12 (b + 23)) l1_12).bind fun v27 =>
      (f_X3_leftOf b x12 l1_12).bind fun v30 =>
      (f_X3_settingOf b x12 2).bind fun v35 =>
      (aset x12 (b + 24) 4 l1_12 (v27 + ((v30 * v35) / 100))).bind fun x43 =>
      (aset x43 (b + 25) 4 l1_12 0).bind fun x50 =>
      (some (l1_12 + 1)).bind fun v51 =>
      f_X3_turnMonth_12 b n12 x50 v51)
def f_X3_turnMonth (b : Nat) (x : XS) : Option (Int32 × XS) :=
    (some (ux x b 7 ((x b 7) + 1))).bind fun x7 =>
    f_X3_turnMonth_12 b 4096 x7 0
set_option maxRecDepth 100000 in
set_option maxHeartbeats 4000000 in
theorem p_X3_turnMonth (l : Launch) (E : TE) {b : Nat} (hB_b : IsB b) (x m : XS) (g o : Int64) {r : Int32} {xr : XS} (hf : f_X3_turnMonth b x = some (r, xr)) : MG l E yX3_turnMonth cX3_turnMonth 3 (some .int) 5 [rf E b] (Wd E x m g o) (Wd E xr m g o) (some (.int r)) := by
  unfold f_X3_turnMonth at hf
  refine m_in (by decide) (Nat.le_of_ble_eq_true rfl) ?_
  intro p e s mi args below meth c H ls hx hb hr hlk hml hown hB hK hW hS hl
  have hl : lv_has ls 3 [(0, rf E b)] := hl
  have J61 : ∀ (n61 : Nat), ∀ (x61 : XS) (l1_61 : Int32) (l2_61 : Int32) (H : Heap) (locs : List Loc) (ls : Array Slot), f_X3_turnMonth_61 b n61 x61 l1_61 l2_61 = some (r, xr) → Wd E x61 m g o H → va_S (Ah E) s.heap H locs → lv_has ls 3 [(0, rf E b), (1, .int l1_61), (2, .int l2_61)] → W p l e (rmH 5) s mi args below meth c H locs 0 0 (EQ E below args s (Wd E xr m g o) (some (.int r))) (F0 mi 61 ls []) := by
    intro n61
    induction n61 with
    | zero => intro x61 l1_61 l2_61 H locs ls hf; exact absurd hf (fun z => nomatch (show (none : Option (Int32 × XS)) = some _ from z))
    | succ n61 ih61 =>
      intro x61 l1_61 l2_61 H locs ls hf hW hS hl
      rw [f_X3_turnMonth_61.eq_2] at hf
      refine lv_iload_n hx hb dX3_turnMonth_61 rfl (lv_at hl 2 rfl) ?_
      refine lv_aload_n hx hb dX3_turnMonth_62 rfl (lv_at hl 0 rfl) ?_
      refine gf_X3_21 hx hb hB hK hown hW hB_b dX3_turnMonth_63 ?_
      refine gf_X3_121 hx hb hB hK hown hW hB_b dX3_turnMonth_66 ?_
      refine lv_icmp_ge (tgt := 86) hx hb dX3_turnMonth_69 (by decide) (fun c69 => ?_) (fun c69 => ?_)
      · rw [if_pos c69] at hf
        refine lv_iload_n hx hb dX3_turnMonth_86 rfl (lv_at hl 1 rfl) ?_
        cases hf
        exact e_i hx hb hr hlk hW hS dX3_turnMonth_87
      · rw [if_neg c69] at hf
        refine lv_iload_n hx hb dX3_turnMonth_72 rfl (lv_at hl 1 rfl) ?_
        refine lv_aload_n hx hb dX3_turnMonth_73 rfl (lv_at hl 0 rfl) ?_
        refine lv_iload_n hx hb dX3_turnMonth_74 rfl (lv_at hl 2 rfl) ?_
        obtain ⟨⟨v75, x75⟩, e75, hf⟩ := ob2 hf
        dsimp only at hf
        refine c_V (As := [.int l2_61]) (st1 := [.int v75, .int l1_61]) (rest := [.int l1_61]) (p_X3_topUp l E hB_b x61 m g o e75) (kc_X3_169 hB ⟨Nat.le_of_ble_eq_true rfl, Nat.le_of_ble_eq_true rfl⟩) (Wd.rec hK hW hB_b.l0 (cB_0 hB_b) (ci := 3) rfl) hx hb hml hown hB hK hW hS ⟨Nat.le_refl 0, Nat.le_refl 0⟩ rfl hl.1 rfl (Nat.le_of_ble_eq_true rfl) rfl dX3_turnMonth_75 (fun H locs hW hS => ?_)
        refine lv_iadd hx hb dX3_turnMonth_78 ?_
        obtain ⟨v79, e79, hf⟩ := ob hf
        refine lv_nm e79 ?_
        refine lv_istore_n (lv' := [(1, .int v79), (0, rf E b), (2, .int l2_61)]) hx hb dX3_turnMonth_79 rfl hl (by decide) rfl (fun ls hl => ?_)
        obtain ⟨v80, e80, hf⟩ := ob hf
        refine lv_iinc (v := v80) (lv' := [(2, .int v80), (1, .int v79), (0, rf E b)]) hx hb dX3_turnMonth_80 hl (k := 2) rfl (by rw [e80]; rfl) (by decide) rfl (fun ls hl => ?_)
        refine lv_goto (tgt := 61) hx hb dX3_turnMonth_83 (by decide) ?_
        exact ih61 x75 v79 v80 _ _ _ hf hW hS (lv_sub hl [2, 1, 0] rfl)
  have J12 : ∀ (n12 : Nat), ∀ (x12 : XS) (l1_12 : Int32) (H : Heap) (locs : List Loc) (ls : Array Slot), f_X3_turnMonth_12 b n12 x12 l1_12 = some (r, xr) → Wd E x12 m g o H → va_S (Ah E) s.heap H locs → lv_has ls 3 [(0, rf E b), (1, .int l1_12)] → W p l e (rmH 5) s mi args below meth c H locs 0 0 (EQ E below args s (Wd E xr m g o) (some (.int r))) (F0 mi 12 ls []) := by
    intro n12
    induction n12 with
    | zero => intro x12 l1_12 H locs ls hf; exact absurd hf (fun z => nomatch (show (none : Option (Int32 × XS)) = some _ from z))
    | succ n12 ih12 =>
      intro x12 l1_12 H locs ls hf hW hS hl
      rw [f_X3_turnMonth_12.eq_2] at hf
      refine lv_iload_n hx hb dX3_turnMonth_12 rfl (lv_at hl 1 rfl) ?_
      refine lv_iconst (v := 4) hx hb dX3_turnMonth_13 (by decide) ?_
      refine lv_icmp_ge (tgt := 57) hx hb dX3_turnMonth_14 (by decide) (fun c14 => ?_) (fun c14 => ?_)
      · rw [if_pos c14] at hf
        refine lv_iconst (v := 0) hx hb dX3_turnMonth_57 (by decide) ?_
        refine lv_istore_n (lv' := [(1, .int 0), (0, rf E b)]) hx hb dX3_turnMonth_58 rfl hl (by decide) rfl (fun ls hl => ?_)
        refine lv_iconst (v := 0) hx hb dX3_turnMonth_59 (by decide) ?_
        refine lv_istore_n (lv' := [(2, .int 0), (1, .int 0), (0, rf E b)]) hx hb dX3_turnMonth_60 rfl hl (by decide) rfl (fun ls hl => ?_)
        exact J61 4096 x12 0 0 _ _ _ hf hW hS (lv_sub hl [2, 1, 0] rfl)
      · rw [if_neg c14] at hf
        refine lv_aload_n hx hb dX3_turnMonth_17 rfl (lv_at hl 0 rfl) ?_
        refine gf_X3_39 hx hb hB hK hown hW hB_b dX3_turnMonth_18 ?_
        refine lv_iload_n hx hb dX3_turnMonth_21 rfl (lv_at hl 1 rfl) ?_
        refine lv_aload_n hx hb dX3_turnMonth_22 rfl (lv_at hl 0 rfl) ?_
        refine gf_X3_36 hx hb hB hK hown hW hB_b dX3_turnMonth_23 ?_
        refine lv_iload_n hx hb dX3_turnMonth_26 rfl (lv_at hl 1 rfl) ?_
        obtain ⟨v27, e27, hf⟩ := ob2 hf
        refine r_iald hx hb hK hW (hB_b.l8 (by decide)) (cB_23 hB_b) e27 dX3_turnMonth_27 ?_
        refine lv_aload_n hx hb dX3_turnMonth_28 rfl (lv_at hl 0 rfl) ?_
        refine lv_iload_n hx hb dX3_turnMonth_29 rfl (lv_at hl 1 rfl) ?_
        obtain ⟨v30, e30, hf⟩ := ob2 hf
        refine c_V (As := [.int l1_12]) (st1 := [.int v30, .int v27, .int l1_12, rf E (b + 24)]) (rest := [.int v27, .int l1_12, rf E (b + 24)]) (p_X3_leftOf l E hB_b x12 m g o e30) (kc_X3_140 hB ⟨Nat.le_of_ble_eq_true rfl, Nat.le_of_ble_eq_true rfl⟩) (Wd.rec hK hW hB_b.l0 (cB_0 hB_b) (ci := 3) rfl) hx hb hml hown hB hK hW hS ⟨Nat.le_refl 0, Nat.le_refl 0⟩ rfl hl.1 rfl (Nat.le_of_ble_eq_true rfl) rfl dX3_turnMonth_30 (fun H locs hW hS => ?_)
        refine lv_aload_n hx hb dX3_turnMonth_33 rfl (lv_at hl 0 rfl) ?_
        refine lv_iconst (v := 2) hx hb dX3_turnMonth_34 (by decide) ?_
        obtain ⟨v35, e35, hf⟩ := ob2 hf
        refine c_V (As := [.int 2]) (st1 := [.int v35, .int v30, .int v27, .int l1_12, rf E (b + 24)]) (rest := [.int v30, .int v27, .int l1_12, rf E (b + 24)]) (p_X3_settingOf l E hB_b x12 m g o e35) (kc_X3_79 hB ⟨Nat.le_of_ble_eq_true rfl, Nat.le_of_ble_eq_true rfl⟩) (Wd.rec hK hW hB_b.l0 (cB_0 hB_b) (ci := 3) rfl) hx hb hml hown hB hK hW hS ⟨Nat.le_refl 0, Nat.le_refl 0⟩ rfl hl.1 rfl (Nat.le_of_ble_eq_true rfl) rfl dX3_turnMonth_35 (fun H locs hW hS => ?_)
        refine lv_imul hx hb dX3_turnMonth_38 ?_
        refine lv_bipush (v := 100) hx hb dX3_turnMonth_39 (by decide) ?_
        refine lv_idiv hx hb dX3_turnMonth_41 (by decide) ?_
        refine lv_iadd hx hb dX3_turnMonth_42 ?_
        obtain ⟨x43, e43, hf⟩ := ob2 hf
        refine r_iastX hx hb hK hW hS (hB_b.lt (by decide)) (fun _ => cB_24 hB_b) e43 dX3_turnMonth_43 (fun H locs hW hS => ?_)
        refine lv_aload_n hx hb dX3_turnMonth_44 rfl (lv_at hl 0 rfl) ?_
        refine gf_X3_42 hx hb hB hK hown hW hB_b dX3_turnMonth_45 ?_
        refine lv_iload_n hx hb dX3_turnMonth_48 rfl (lv_at hl 1 rfl) ?_
        refine lv_iconst (v := 0) hx hb dX3_turnMonth_49 (by decide) ?_
        obtain ⟨x50, e50, hf⟩ := ob2 hf
        refine r_iastX hx hb hK hW hS (hB_b.lt (by decide)) (fun _ => cB_25 hB_b) e50 dX3_turnMonth_50 (fun H locs hW hS => ?_)
        obtain ⟨v51, e51, hf⟩ := ob hf
        refine lv_iinc (v := v51) (lv' := [(1, .int v51), (0, rf E b)]) hx hb dX3_turnMonth_51 hl (k := 1) rfl (by rw [e51]; rfl) (by decide) rfl (fun ls hl => ?_)
        refine lv_goto (tgt := 12) hx hb dX3_turnMonth_54 (by decide) ?_
        exact ih12 x50 v51 _ _ _ hf hW hS (lv_sub hl [1, 0] rfl)
  refine lv_aload_n hx hb dX3_turnMonth_0 rfl (lv_at hl 0 rfl) ?_
  refine lv_dup hx hb dX3_turnMonth_1 rfl ?_
  refine gf_X3_68 hx hb hB hK hown hW hB_b dX3_turnMonth_2 ?_
  refine lv_iconst (v := 1) hx hb dX3_turnMonth_5 (by decide) ?_
  refine lv_iadd hx hb dX3_turnMonth_6 ?_
  obtain ⟨x7, e7, hf⟩ := ob hf
  refine pf_X3_68 hx hb hB hK hown hW hS hB_b e7 dX3_turnMonth_7 (fun H locs hW hS => ?_)
  refine lv_iconst (v := 0) hx hb dX3_turnMonth_10 (by decide) ?_
  refine lv_istore_n (lv' := [(1, .int 0), (0, rf E b)]) hx hb dX3_turnMonth_11 rfl hl (by decide) rfl (fun ls hl => ?_)
  exact J12 4096 x7 0 _ _ _ hf hW hS (lv_sub hl [1, 0] rfl)
def f_X3_ofComplaint (b : Nat) (x : XS) (a0 : Int32) (a1 : Int32) : Option (Int32) :=
    if (a1 = 0 : Prop) then
      ((f_X0_kindOf b x a0).bind fun v61 =>
      some v61)
    else if (a1 = 1 : Prop) then
      ((f_X0_severityOf b x a0).bind fun v70 =>
      some v70)
    else if (a1 = 2 : Prop) then
      ((f_X0_customerOf b x a0).bind fun v79 =>
      some v79)
    else if (a1 = 3 : Prop) then
      ((f_X0_groupOf b x a0).bind fun v88 =>
      some v88)
    else if (a1 = 4 : Prop) then
      ((f_X0_stageOf b x a0).bind fun v97 =>
      some v97)
    else if (a1 = 5 : Prop) then
      ((f_X0_amendsOf b x a0).bind fun v106 =>
      some v106)
    else if (a1 = 6 : Prop) then
      ((f_X0_gotOf b x a0).bind fun v115 =>
      some v115)
    else if (a1 = 7 : Prop) then
      ((f_X0_reasonOf b x a0).bind fun v124 =>
      some v124)
    else if (a1 = 8 : Prop) then
      ((f_X0_monthOf b x a0).bind fun v133 =>
      some v133)
    else if (a1 = 9 : Prop) then
      ((f_X3_tieOf b x a0).bind fun v139 =>
      some v139)
    else   ((f_X3_owedTo b x a0).bind fun v145 =>
      some v145)
set_option maxRecDepth 100000 in
set_option maxHeartbeats 4000000 in
theorem p_X3_ofComplaint (l : Launch) (E : TE) {b : Nat} (hB_b : IsB b) (x m : XS) (g o : Int64) {a0 : Int32} {a1 : Int32} {r : Int32} (hf : f_X3_ofComplaint b x a0 a1 = some r) : MG l E yX3_ofComplaint cX3_ofComplaint 3 (some .int) 4 [rf E b, .int a0, .int a1] (Wd E x m g o) (Wd E x m g o) (some (.int r)) := by
  unfold f_X3_ofComplaint at hf
  refine m_in (by decide) (Nat.le_of_ble_eq_true rfl) ?_
  intro p e s mi args below meth c H ls hx hb hr hlk hml hown hB hK hW hS hl
  have hl : lv_has ls 3 [(0, rf E b), (1, .int a0), (2, .int a1)] := hl
  refine lv_iload_n hx hb dX3_ofComplaint_0 rfl (lv_at hl 2 rfl) ?_
  by_cases c1_0 : a1 = 0
  · rw [if_pos c1_0] at hf
    refine lv_tableIn (tgt := 56) (off := 55) hx hb dX3_ofComplaint_1 (by rw [c1_0]; decide) (by rw [c1_0]; decide) (by rw [c1_0]; rfl) (by decide) ?_
    refine lv_aload_n hx hb dX3_ofComplaint_56 rfl (lv_at hl 0 rfl) ?_
    refine gf_X3_21 hx hb hB hK hown hW hB_b dX3_ofComplaint_57 ?_
    refine lv_iload_n hx hb dX3_ofComplaint_60 rfl (lv_at hl 1 rfl) ?_
    obtain ⟨v61, e61, hf⟩ := ob2 hf
    refine c_V (As := [.int a0]) (st1 := [.int v61]) (rest := []) (p_X0_kindOf l E hB_b x m g o e61) (kc_X3_99 hB ⟨Nat.le_of_ble_eq_true rfl, Nat.le_of_ble_eq_true rfl⟩) (Wd.rec hK hW (hB_b.l8 (j := 7) (by decide)) (cB_7 hB_b) (ci := 0) rfl) hx hb hml hown hB hK hW hS ⟨Nat.le_refl 0, Nat.le_refl 0⟩ rfl hl.1 rfl (Nat.le_of_ble_eq_true rfl) rfl dX3_ofComplaint_61 (fun H locs hW hS => ?_)
    cases hf
    exact e_i hx hb hr hlk hW hS dX3_ofComplaint_64
  rw [if_neg c1_0] at hf
  by_cases c1_1 : a1 = 1
  · rw [if_pos c1_1] at hf
    refine lv_tableIn (tgt := 65) (off := 64) hx hb dX3_ofComplaint_1 (by rw [c1_1]; decide) (by rw [c1_1]; decide) (by rw [c1_1]; rfl) (by decide) ?_
    refine lv_aload_n hx hb dX3_ofComplaint_65 rfl (lv_at hl 0 rfl) ?_
    refine gf_X3_21 hx hb hB hK hown hW hB_b dX3_ofComplaint_66 ?_
    refine lv_iload_n hx hb dX3_ofComplaint_69 rfl (lv_at hl 1 rfl) ?_
    obtain ⟨v70, e70, hf⟩ := ob2 hf
    refine c_V (As := [.int a0]) (st1 := [.int v70]) (rest := []) (p_X0_severityOf l E hB_b x m g o e70) (kc_X3_127 hB ⟨Nat.le_of_ble_eq_true rfl, Nat.le_of_ble_eq_true rfl⟩) (Wd.rec hK hW (hB_b.l8 (j := 7) (by decide)) (cB_7 hB_b) (ci := 0) rfl) hx hb hml hown hB hK hW hS ⟨Nat.le_refl 0, Nat.le_refl 0⟩ rfl hl.1 rfl (Nat.le_of_ble_eq_true rfl) rfl dX3_ofComplaint_70 (fun H locs hW hS => ?_)
    cases hf
    exact e_i hx hb hr hlk hW hS dX3_ofComplaint_73
  rw [if_neg c1_1] at hf
  by_cases c1_2 : a1 = 2
  · rw [if_pos c1_2] at hf
    refine lv_tableIn (tgt := 74) (off := 73) hx hb dX3_ofComplaint_1 (by rw [c1_2]; decide) (by rw [c1_2]; decide) (by rw [c1_2]; rfl) (by decide) ?_
    refine lv_aload_n hx hb dX3_ofComplaint_74 rfl (lv_at hl 0 rfl) ?_
    refine gf_X3_21 hx hb hB hK hown hW hB_b dX3_ofComplaint_75 ?_
    refine lv_iload_n hx hb dX3_ofComplaint_78 rfl (lv_at hl 1 rfl) ?_
    obtain ⟨v79, e79, hf⟩ := ob2 hf
    refine c_V (As := [.int a0]) (st1 := [.int v79]) (rest := []) (p_X0_customerOf l E hB_b x m g o e79) (kc_X3_183 hB ⟨Nat.le_of_ble_eq_true rfl, Nat.le_of_ble_eq_true rfl⟩) (Wd.rec hK hW (hB_b.l8 (j := 7) (by decide)) (cB_7 hB_b) (ci := 0) rfl) hx hb hml hown hB hK hW hS ⟨Nat.le_refl 0, Nat.le_refl 0⟩ rfl hl.1 rfl (Nat.le_of_ble_eq_true rfl) rfl dX3_ofComplaint_79 (fun H locs hW hS => ?_)
    cases hf
    exact e_i hx hb hr hlk hW hS dX3_ofComplaint_82
  rw [if_neg c1_2] at hf
  by_cases c1_3 : a1 = 3
  · rw [if_pos c1_3] at hf
    refine lv_tableIn (tgt := 83) (off := 82) hx hb dX3_ofComplaint_1 (by rw [c1_3]; decide) (by rw [c1_3]; decide) (by rw [c1_3]; rfl) (by decide) ?_
    refine lv_aload_n hx hb dX3_ofComplaint_83 rfl (lv_at hl 0 rfl) ?_
    refine gf_X3_21 hx hb hB hK hown hW hB_b dX3_ofComplaint_84 ?_
    refine lv_iload_n hx hb dX3_ofComplaint_87 rfl (lv_at hl 1 rfl) ?_
    obtain ⟨v88, e88, hf⟩ := ob2 hf
    refine c_V (As := [.int a0]) (st1 := [.int v88]) (rest := []) (p_X0_groupOf l E hB_b x m g o e88) (kc_X3_102 hB ⟨Nat.le_of_ble_eq_true rfl, Nat.le_of_ble_eq_true rfl⟩) (Wd.rec hK hW (hB_b.l8 (j := 7) (by decide)) (cB_7 hB_b) (ci := 0) rfl) hx hb hml hown hB hK hW hS ⟨Nat.le_refl 0, Nat.le_refl 0⟩ rfl hl.1 rfl (Nat.le_of_ble_eq_true rfl) rfl dX3_ofComplaint_88 (fun H locs hW hS => ?_)
    cases hf
    exact e_i hx hb hr hlk hW hS dX3_ofComplaint_91
  rw [if_neg c1_3] at hf
  by_cases c1_4 : a1 = 4
  · rw [if_pos c1_4] at hf
    refine lv_tableIn (tgt := 92) (off := 91) hx hb dX3_ofComplaint_1 (by rw [c1_4]; decide) (by rw [c1_4]; decide) (by rw [c1_4]; rfl) (by decide) ?_
    refine lv_aload_n hx hb dX3_ofComplaint_92 rfl (lv_at hl 0 rfl) ?_
    refine gf_X3_21 hx hb hB hK hown hW hB_b dX3_ofComplaint_93 ?_
    refine lv_iload_n hx hb dX3_ofComplaint_96 rfl (lv_at hl 1 rfl) ?_
    obtain ⟨v97, e97, hf⟩ := ob2 hf
    refine c_V (As := [.int a0]) (st1 := [.int v97]) (rest := []) (p_X0_stageOf l E hB_b x m g o e97) (kc_X3_112 hB ⟨Nat.le_of_ble_eq_true rfl, Nat.le_of_ble_eq_true rfl⟩) (Wd.rec hK hW (hB_b.l8 (j := 7) (by decide)) (cB_7 hB_b) (ci := 0) rfl) hx hb hml hown hB hK hW hS ⟨Nat.le_refl 0, Nat.le_refl 0⟩ rfl hl.1 rfl (Nat.le_of_ble_eq_true rfl) rfl dX3_ofComplaint_97 (fun H locs hW hS => ?_)
    cases hf
    exact e_i hx hb hr hlk hW hS dX3_ofComplaint_100
  rw [if_neg c1_4] at hf
  by_cases c1_5 : a1 = 5
  · rw [if_pos c1_5] at hf
    refine lv_tableIn (tgt := 101) (off := 100) hx hb dX3_ofComplaint_1 (by rw [c1_5]; decide) (by rw [c1_5]; decide) (by rw [c1_5]; rfl) (by decide) ?_
    refine lv_aload_n hx hb dX3_ofComplaint_101 rfl (lv_at hl 0 rfl) ?_
    refine gf_X3_21 hx hb hB hK hown hW hB_b dX3_ofComplaint_102 ?_
    refine lv_iload_n hx hb dX3_ofComplaint_105 rfl (lv_at hl 1 rfl) ?_
    obtain ⟨v106, e106, hf⟩ := ob2 hf
    refine c_V (As := [.int a0]) (st1 := [.int v106]) (rest := []) (p_X0_amendsOf l E hB_b x m g o e106) (kc_X3_186 hB ⟨Nat.le_of_ble_eq_true rfl, Nat.le_of_ble_eq_true rfl⟩) (Wd.rec hK hW (hB_b.l8 (j := 7) (by decide)) (cB_7 hB_b) (ci := 0) rfl) hx hb hml hown hB hK hW hS ⟨Nat.le_refl 0, Nat.le_refl 0⟩ rfl hl.1 rfl (Nat.le_of_ble_eq_true rfl) rfl dX3_ofComplaint_106 (fun H locs hW hS => ?_)
    cases hf
    exact e_i hx hb hr hlk hW hS dX3_ofComplaint_109
  rw [if_neg c1_5] at hf
  by_cases c1_6 : a1 = 6
  · rw [if_pos c1_6] at hf
    refine lv_tableIn (tgt := 110) (off := 109) hx hb dX3_ofComplaint_1 (by rw [c1_6]; decide) (by rw [c1_6]; decide) (by rw [c1_6]; rfl) (by decide) ?_
    refine lv_aload_n hx hb dX3_ofComplaint_110 rfl (lv_at hl 0 rfl) ?_
    refine gf_X3_21 hx hb hB hK hown hW hB_b dX3_ofComplaint_111 ?_
    refine lv_iload_n hx hb dX3_ofComplaint_114 rfl (lv_at hl 1 rfl) ?_
    obtain ⟨v115, e115, hf⟩ := ob2 hf
    refine c_V (As := [.int a0]) (st1 := [.int v115]) (rest := []) (p_X0_gotOf l E hB_b x m g o e115) (kc_X3_155 hB ⟨Nat.le_of_ble_eq_true rfl, Nat.le_of_ble_eq_true rfl⟩) (Wd.rec hK hW (hB_b.l8 (j := 7) (by decide)) (cB_7 hB_b) (ci := 0) rfl) hx hb hml hown hB hK hW hS ⟨Nat.le_refl 0, Nat.le_refl 0⟩ rfl hl.1 rfl (Nat.le_of_ble_eq_true rfl) rfl dX3_ofComplaint_115 (fun H locs hW hS => ?_)
    cases hf
    exact e_i hx hb hr hlk hW hS dX3_ofComplaint_118
  rw [if_neg c1_6] at hf
  by_cases c1_7 : a1 = 7
  · rw [if_pos c1_7] at hf
    refine lv_tableIn (tgt := 119) (off := 118) hx hb dX3_ofComplaint_1 (by rw [c1_7]; decide) (by rw [c1_7]; decide) (by rw [c1_7]; rfl) (by decide) ?_
    refine lv_aload_n hx hb dX3_ofComplaint_119 rfl (lv_at hl 0 rfl) ?_
    refine gf_X3_21 hx hb hB hK hown hW hB_b dX3_ofComplaint_120 ?_
    refine lv_iload_n hx hb dX3_ofComplaint_123 rfl (lv_at hl 1 rfl) ?_
    obtain ⟨v124, e124, hf⟩ := ob2 hf
    refine c_V (As := [.int a0]) (st1 := [.int v124]) (rest := []) (p_X0_reasonOf l E hB_b x m g o e124) (kc_X3_187 hB ⟨Nat.le_of_ble_eq_true rfl, Nat.le_of_ble_eq_true rfl⟩) (Wd.rec hK hW (hB_b.l8 (j := 7) (by decide)) (cB_7 hB_b) (ci := 0) rfl) hx hb hml hown hB hK hW hS ⟨Nat.le_refl 0, Nat.le_refl 0⟩ rfl hl.1 rfl (Nat.le_of_ble_eq_true rfl) rfl dX3_ofComplaint_124 (fun H locs hW hS => ?_)
    cases hf
    exact e_i hx hb hr hlk hW hS dX3_ofComplaint_127
  rw [if_neg c1_7] at hf
  by_cases c1_8 : a1 = 8
  · rw [if_pos c1_8] at hf
    refine lv_tableIn (tgt := 128) (off := 127) hx hb dX3_ofComplaint_1 (by rw [c1_8]; decide) (by rw [c1_8]; decide) (by rw [c1_8]; rfl) (by decide) ?_
    refine lv_aload_n hx hb dX3_ofComplaint_128 rfl (lv_at hl 0 rfl) ?_
    refine gf_X3_21 hx hb hB hK hown hW hB_b dX3_ofComplaint_129 ?_
    refine lv_iload_n hx hb dX3_ofComplaint_132 rfl (lv_at hl 1 rfl) ?_
    obtain ⟨v133, e133, hf⟩ := ob2 hf
    refine c_V (As := [.int a0]) (st1 := [.int v133]) (rest := []) (p_X0_monthOf l E hB_b x m g o e133) (kc_X3_162 hB ⟨Nat.le_of_ble_eq_true rfl, Nat.le_of_ble_eq_true rfl⟩) (Wd.rec hK hW (hB_b.l8 (j := 7) (by decide)) (cB_7 hB_b) (ci := 0) rfl) hx hb hml hown hB hK hW hS ⟨Nat.le_refl 0, Nat.le_refl 0⟩ rfl hl.1 rfl (Nat.le_of_ble_eq_true rfl) rfl dX3_ofComplaint_133 (fun H locs hW hS => ?_)
    cases hf
    exact e_i hx hb hr hlk hW hS dX3_ofComplaint_136
  rw [if_neg c1_8] at hf
  by_cases c1_9 : a1 = 9
  · rw [if_pos c1_9] at hf
    refine lv_tableIn (tgt := 137) (off := 136) hx hb dX3_ofComplaint_1 (by rw [c1_9]; decide) (by rw [c1_9]; decide) (by rw [c1_9]; rfl) (by decide) ?_
    refine lv_aload_n hx hb dX3_ofComplaint_137 rfl (lv_at hl 0 rfl) ?_
    refine lv_iload_n hx hb dX3_ofComplaint_138 rfl (lv_at hl 1 rfl) ?_
    obtain ⟨v139, e139, hf⟩ := ob2 hf
    refine c_V (As := [.int a0]) (st1 := [.int v139]) (rest := []) (p_X3_tieOf l E hB_b x m g o e139) (kc_X3_124 hB ⟨Nat.le_of_ble_eq_true rfl, Nat.le_of_ble_eq_true rfl⟩) (Wd.rec hK hW hB_b.l0 (cB_0 hB_b) (ci := 3) rfl) hx hb hml hown hB hK hW hS ⟨Nat.le_refl 0, Nat.le_refl 0⟩ rfl hl.1 rfl (Nat.le_of_ble_eq_true rfl) rfl dX3_ofComplaint_139 (fun H locs hW hS => ?_)
    cases hf
    exact e_i hx hb hr hlk hW hS dX3_ofComplaint_142
  rw [if_neg c1_9] at hf
  refine lv_tableOut (tgt := 143) hx hb dX3_ofComplaint_1 (by have h0 := lv_neT c1_0 (show (0 : Int32).toInt = 0 by decide); have h1 := lv_neT c1_1 (show (1 : Int32).toInt = 1 by decide); have h2 := lv_neT c1_2 (show (2 : Int32).toInt = 2 by decide); have h3 := lv_neT c1_3 (show (3 : Int32).toInt = 3 by decide); have h4 := lv_neT c1_4 (show (4 : Int32).toInt = 4 by decide); have h5 := lv_neT c1_5 (show (5 : Int32).toInt = 5 by decide); have h6 := lv_neT c1_6 (show (6 : Int32).toInt = 6 by decide); have h7 := lv_neT c1_7 (show (7 : Int32).toInt = 7 by decide); have h8 := lv_neT c1_8 (show (8 : Int32).toInt = 8 by decide); have h9 := lv_neT c1_9 (show (9 : Int32).toInt = 9 by decide); omega) (by decide) ?_
  refine lv_aload_n hx hb dX3_ofComplaint_143 rfl (lv_at hl 0 rfl) ?_
  refine lv_iload_n hx hb dX3_ofComplaint_144 rfl (lv_at hl 1 rfl) ?_
  obtain ⟨v145, e145, hf⟩ := ob2 hf
  refine c_V (As := [.int a0]) (st1 := [.int v145]) (rest := []) (p_X3_owedTo l E hB_b x m g o e145) (kc_X3_177 hB ⟨Nat.le_of_ble_eq_true rfl, Nat.le_of_ble_eq_true rfl⟩) (Wd.rec hK hW hB_b.l0 (cB_0 hB_b) (ci := 3) rfl) hx hb hml hown hB hK hW hS ⟨Nat.le_refl 0, Nat.le_refl 0⟩ rfl hl.1 rfl (Nat.le_of_ble_eq_true rfl) rfl dX3_ofComplaint_145 (fun H locs hW hS => ?_)
  cases hf
  exact e_i hx hb hr hlk hW hS dX3_ofComplaint_148
def f_X3_budgetOf (b : Nat) (x : XS) (a0 : Int32) : Option (Int32) :=
    (f_X4_isKind a0).bind fun v1 =>
    if (v1 = 0 : Prop) then
      some 0
    else
      ((aget 4 (x (b + 24)) a0).bind fun v12 =>
      some v12)
set_option maxRecDepth 100000 in
set_option maxHeartbeats 4000000 in
theorem p_X3_budgetOf (l : Launch) (E : TE) {b : Nat} (hB_b : IsB b) (x m : XS) (g o : Int64) {a0 : Int32} {r : Int32} (hf : f_X3_budgetOf b x a0 = some r) : MG l E yX3_budgetOf cX3_budgetOf 2 (some .int) 1 [rf E b, .int a0] (Wd E x m g o) (Wd E x m g o) (some (.int r)) := by
  unfold f_X3_budgetOf at hf
  refine m_in (by decide) (Nat.le_of_ble_eq_true rfl) ?_
  intro p e s mi args below meth c H ls hx hb hr hlk hml hown hB hK hW hS hl
  have hl : lv_has ls 2 [(0, rf E b), (1, .int a0)] := hl
  refine lv_iload_n hx hb dX3_budgetOf_0 rfl (lv_at hl 1 rfl) ?_
  obtain ⟨v1, e1, hf⟩ := ob2 hf
  refine c_SN (As := [.int a0]) (st1 := [.int v1]) (rest := []) (p_X4_isKind l E x m g o e1) (kc_X3_76 hB hK ⟨Nat.le_of_ble_eq_true rfl, Nat.le_of_ble_eq_true rfl⟩) hx hb hml hown hB hK hW hS ⟨Nat.le_refl 0, Nat.le_refl 0⟩ rfl hl.1 rfl (Nat.le_of_ble_eq_true rfl) rfl dX3_budgetOf_1 (fun H locs hW hS => ?_)
  refine lv_if_eq (tgt := 16) hx hb dX3_budgetOf_4 (by decide) (fun c4 => ?_) (fun c4 => ?_)
  · rw [if_pos c4] at hf
    refine lv_iconst (v := 0) hx hb dX3_budgetOf_16 (by decide) ?_
    cases hf
    exact e_i hx hb hr hlk hW hS dX3_budgetOf_17
  · rw [if_neg c4] at hf
    refine lv_aload_n hx hb dX3_budgetOf_7 rfl (lv_at hl 0 rfl) ?_
    refine gf_X3_39 hx hb hB hK hown hW hB_b dX3_budgetOf_8 ?_
    refine lv_iload_n hx hb dX3_budgetOf_11 rfl (lv_at hl 1 rfl) ?_
    obtain ⟨v12, e12, hf⟩ := ob2 hf
    refine r_iald hx hb hK hW (hB_b.l8 (by decide)) (cB_24 hB_b) e12 dX3_budgetOf_12 ?_
    refine lv_goto (tgt := 17) hx hb dX3_budgetOf_13 (by decide) ?_
    cases hf
    exact e_i hx hb hr hlk hW hS dX3_budgetOf_17
def f_X3_spentOf (b : Nat) (x : XS) (a0 : Int32) : Option (Int32) :=
    (f_X4_isKind a0).bind fun v1 =>
    if (v1 = 0 : Prop) then
      some 0
    else
      ((aget 4 (x (b + 25)) a0).bind fun v12 =>
      some v12)
set_option maxRecDepth 100000 in
set_option maxHeartbeats 4000000 in
theorem p_X3_spentOf (l : Launch) (E : TE) {b : Nat} (hB_b : IsB b) (x m : XS) (g o : Int64) {a0 : Int32} {r : Int32} (hf : f_X3_spentOf b x a0 = some r) : MG l E yX3_spentOf cX3_spentOf 2 (some .int) 1 [rf E b, .int a0] (Wd E x m g o) (Wd E x m g o) (some (.int r)) := by
  unfold f_X3_spentOf at hf
  refine m_in (by decide) (Nat.le_of_ble_eq_true rfl) ?_
  intro p e s mi args below meth c H ls hx hb hr hlk hml hown hB hK hW hS hl
  have hl : lv_has ls 2 [(0, rf E b), (1, .int a0)] := hl
  refine lv_iload_n hx hb dX3_spentOf_0 rfl (lv_at hl 1 rfl) ?_
  obtain ⟨v1, e1, hf⟩ := ob2 hf
  refine c_SN (As := [.int a0]) (st1 := [.int v1]) (rest := []) (p_X4_isKind l E x m g o e1) (kc_X3_76 hB hK ⟨Nat.le_of_ble_eq_true rfl, Nat.le_of_ble_eq_true rfl⟩) hx hb hml hown hB hK hW hS ⟨Nat.le_refl 0, Nat.le_refl 0⟩ rfl hl.1 rfl (Nat.le_of_ble_eq_true rfl) rfl dX3_spentOf_1 (fun H locs hW hS => ?_)
  refine lv_if_eq (tgt := 16) hx hb dX3_spentOf_4 (by decide) (fun c4 => ?_) (fun c4 => ?_)
  · rw [if_pos c4] at hf
    refine lv_iconst (v := 0) hx hb dX3_spentOf_16 (by decide) ?_
    cases hf
    exact e_i hx hb hr hlk hW hS dX3_spentOf_17
  · rw [if_neg c4] at hf
    refine lv_aload_n hx hb dX3_spentOf_7 rfl (lv_at hl 0 rfl) ?_
    refine gf_X3_42 hx hb hB hK hown hW hB_b dX3_spentOf_8 ?_
    refine lv_iload_n hx hb dX3_spentOf_11 rfl (lv_at hl 1 rfl) ?_
    obtain ⟨v12, e12, hf⟩ := ob2 hf
    refine r_iald hx hb hK hW (hB_b.l8 (by decide)) (cB_25 hB_b) e12 dX3_spentOf_12 ?_
    refine lv_goto (tgt := 17) hx hb dX3_spentOf_13 (by decide) ?_
    cases hf
    exact e_i hx hb hr hlk hW hS dX3_spentOf_17
def f_X3_owedInKind_35 (b : Nat) (x : XS) (k4 : Int32 → Int32 → Int32 → Option (Int32)) (l1_35 : Int32) (l2_35 : Int32) (l3_35 : Int32) : Option (Int32) :=
    (some (l3_35 + 1)).bind fun v35 =>
    k4 l1_35 l2_35 v35
def f_X3_owedInKind_4 (b : Nat) (x : XS) : Nat → Int32 → Int32 → Int32 → Option (Int32)
  | 0, _, _, _ => none
  | n4 + 1, l1_4, l2_4, l3_4 =>
    if ((x (b + 7) 0) ≤ l3_4 : Prop) then
      some l2_4
    else
      ((f_X0_kindOf b x l3_4).bind fun v20 =>
      if (v20 = l1_4 : Prop) then
        ((f_X3_owedTo b x l3_4).bind fun v30 =>
        (some ((l2_4 + v30))).bind fun v34 =>
        f_X3_owedInKind_35 b x (f_X3_owedInKind_4 b x n4) l1_4 v34 l3_4)
      else
        f_X3_owedInKind_35 b x (f_X3_owedInKind_4 b x n4) l1_4 l2_4 l3_4)
def f_X3_owedInKind (b : Nat) (x : XS) (a0 : Int32) : Option (Int32) :=
    f_X3_owedInKind_4 b x 4096 a0 0 0
set_option maxRecDepth 100000 in
set_option maxHeartbeats 4000000 in
theorem p_X3_owedInKind (l : Launch) (E : TE) {b : Nat} (hB_b : IsB b) (x m : XS) (g o : Int64) {a0 : Int32} {r : Int32} (hf : f_X3_owedInKind b x a0 = some r) : MG l E yX3_owedInKind cX3_owedInKind 4 (some .int) 4 [rf E b, .int a0] (Wd E x m g o) (Wd E x m g o) (some (.int r)) := by
  unfold f_X3_owedInKind at hf
  refine m_in (by decide) (Nat.le_of_ble_eq_true rfl) ?_
  intro p e s mi args below meth c H ls hx hb hr hlk hml hown hB hK hW hS hl
  have hl : lv_has ls 4 [(0, rf E b), (1, .int a0)] := hl
  have J4 : ∀ (n4 : Nat), ∀ (l1_4 : Int32) (l2_4 : Int32) (l3_4 : Int32) (H : Heap) (locs : List Loc) (ls : Array Slot), f_X3_owedInKind_4 b x n4 l1_4 l2_4 l3_4 = some r → Wd E x m g o H → va_S (Ah E) s.heap H locs → lv_has ls 4 [(0, rf E b), (1, .int l1_4), (2, .int l2_4), (3, .int l3_4)] → W p l e (rmH 4) s mi args below meth c H locs 0 0 (EQ E below args s (Wd E x m g o) (some (.int r))) (F0 mi 4 ls []) := by
    intro n4
    induction n4 with
    | zero => intro l1_4 l2_4 l3_4 H locs ls hf; exact absurd hf (fun z => nomatch (show (none : Option (Int32)) = some _ from z))
    | succ n4 ih4 =>
      intro l1_4 l2_4 l3_4 H locs ls hf hW hS hl
      rw [f_X3_owedInKind_4.eq_2] at hf
      have J35 : ∀ (l1_35 : Int32) (l2_35 : Int32) (l3_35 : Int32) (H : Heap) (locs : List Loc) (ls : Array Slot), f_X3_owedInKind_35 b x (f_X3_owedInKind_4 b x n4) l1_35 l2_35 l3_35 = some r → Wd E x m g o H → va_S (Ah E) s.heap H locs → lv_has ls 4 [(0, rf E b), (1, .int l1_35), (2, .int l2_35), (3, .int l3_35)] → W p l e (rmH 4) s mi args below meth c H locs 0 0 (EQ E below args s (Wd E x m g o) (some (.int r))) (F0 mi 35 ls []) := by
        intro l1_35 l2_35 l3_35 H locs ls hf hW hS hl
        unfold f_X3_owedInKind_35 at hf
        obtain ⟨v35, e35, hf⟩ := ob hf
        refine lv_iinc (v := v35) (lv' := [(3, .int v35), (0, rf E b), (1, .int l1_35), (2, .int l2_35)]) hx hb dX3_owedInKind_35 hl (k := 3) rfl (by rw [e35]; rfl) (by decide) rfl (fun ls hl => ?_)
        refine lv_goto (tgt := 4) hx hb dX3_owedInKind_38 (by decide) ?_
        exact ih4 l1_35 l2_35 v35 _ _ _ hf hW hS (lv_sub hl [1, 2, 3, 0] rfl)
      refine lv_iload_n hx hb dX3_owedInKind_4 rfl (lv_at hl 3 rfl) ?_
      refine lv_aload_n hx hb dX3_owedInKind_5 rfl (lv_at hl 0 rfl) ?_
      refine gf_X3_21 hx hb hB hK hown hW hB_b dX3_owedInKind_6 ?_
      refine gf_X3_121 hx hb hB hK hown hW hB_b dX3_owedInKind_9 ?_
      refine lv_icmp_ge (tgt := 41) hx hb dX3_owedInKind_12 (by decide) (fun c12 => ?_) (fun c12 => ?_)
      · rw [if_pos c12] at hf
        refine lv_iload_n hx hb dX3_owedInKind_41 rfl (lv_at hl 2 rfl) ?_
        cases hf
        exact e_i hx hb hr hlk hW hS dX3_owedInKind_42
      · rw [if_neg c12] at hf
        refine lv_aload_n hx hb dX3_owedInKind_15 rfl (lv_at hl 0 rfl) ?_
        refine gf_X3_21 hx hb hB hK hown hW hB_b dX3_owedInKind_16 ?_
        refine lv_iload_n hx hb dX3_owedInKind_19 rfl (lv_at hl 3 rfl) ?_
        obtain ⟨v20, e20, hf⟩ := ob2 hf
        refine c_V (As := [.int l3_4]) (st1 := [.int v20]) (rest := []) (p_X0_kindOf l E hB_b x m g o e20) (kc_X3_99 hB ⟨Nat.le_of_ble_eq_true rfl, Nat.le_of_ble_eq_true rfl⟩) (Wd.rec hK hW (hB_b.l8 (j := 7) (by decide)) (cB_7 hB_b) (ci := 0) rfl) hx hb hml hown hB hK hW hS ⟨Nat.le_refl 0, Nat.le_refl 0⟩ rfl hl.1 rfl (Nat.le_of_ble_eq_true rfl) rfl dX3_owedInKind_20 (fun H locs hW hS => ?_)
        refine lv_iload_n hx hb dX3_owedInKind_23 rfl (lv_at hl 1 rfl) ?_
        refine lv_icmp_ne (tgt := 35) hx hb dX3_owedInKind_24 (by decide) (fun c24 => ?_) (fun c24 => ?_)
        · rw [if_neg c24] at hf
          exact J35 l1_4 l2_4 l3_4 _ _ _ hf hW hS (lv_sub hl [0, 1, 2, 3] rfl)
        · rw [if_pos c24] at hf
          refine lv_iload_n hx hb dX3_owedInKind_27 rfl (lv_at hl 2 rfl) ?_
          refine lv_aload_n hx hb dX3_owedInKind_28 rfl (lv_at hl 0 rfl) ?_
          refine lv_iload_n hx hb dX3_owedInKind_29 rfl (lv_at hl 3 rfl) ?_
          obtain ⟨v30, e30, hf⟩ := ob2 hf
          refine c_V (As := [.int l3_4]) (st1 := [.int v30, .int l2_4]) (rest := [.int l2_4]) (p_X3_owedTo l E hB_b x m g o e30) (kc_X3_177 hB ⟨Nat.le_of_ble_eq_true rfl, Nat.le_of_ble_eq_true rfl⟩) (Wd.rec hK hW hB_b.l0 (cB_0 hB_b) (ci := 3) rfl) hx hb hml hown hB hK hW hS ⟨Nat.le_refl 0, Nat.le_refl 0⟩ rfl hl.1 rfl (Nat.le_of_ble_eq_true rfl) rfl dX3_owedInKind_30 (fun H locs hW hS => ?_)
          refine lv_iadd hx hb dX3_owedInKind_33 ?_
          obtain ⟨v34, e34, hf⟩ := ob hf
          refine lv_nm e34 ?_
          refine lv_istore_n (lv' := [(2, .int v34), (0, rf E b), (1, .int l1_4), (3, .int l3_4)]) hx hb dX3_owedInKind_34 rfl hl (by decide) rfl (fun ls hl => ?_)
          exact J35 l1_4 v34 l3_4 _ _ _ hf hW hS (lv_sub hl [1, 2, 0, 3] rfl)
  refine lv_iconst (v := 0) hx hb dX3_owedInKind_0 (by decide) ?_
  refine lv_istore_n (lv' := [(2, .int 0), (0, rf E b), (1, .int a0)]) hx hb dX3_owedInKind_1 rfl hl (by decide) rfl (fun ls hl => ?_)
  refine lv_iconst (v := 0) hx hb dX3_owedInKind_2 (by decide) ?_
  refine lv_istore_n (lv' := [(3, .int 0), (2, .int 0), (0, rf E b), (1, .int a0)]) hx hb dX3_owedInKind_3 rfl hl (by decide) rfl (fun ls hl => ?_)
  exact J4 4096 a0 0 0 _ _ _ hf hW hS (lv_sub hl [2, 3, 1, 0] rfl)
def f_X3_waiting_26 (b : Nat) (x : XS) (k4 : Int32 → Int32 → Option (Int32)) (l1_26 : Int32) (l2_26 : Int32) : Option (Int32) :=
    (some (l2_26 + 1)).bind fun v26 =>
    k4 l1_26 v26
def f_X3_waiting_4 (b : Nat) (x : XS) : Nat → Int32 → Int32 → Option (Int32)
  | 0, _, _ => none
  | n4 + 1, l1_4, l2_4 =>
    if ((x (b + 7) 0) ≤ l2_4 : Prop) then
      some l1_4
    else
      ((f_X3_owedTo b x l2_4).bind fun v17 =>
      if (v17 ≤ 0 : Prop) then
        f_X3_waiting_26 b x (f_X3_waiting_4 b x n4) l1_4 l2_4
      else
        ((some (l1_4 + 1)).bind fun v23 =>
        f_X3_waiting_26 b x (f_X3_waiting_4 b x n4) v23 l2_4))
def f_X3_waiting (b : Nat) (x : XS) : Option (Int32) :=
    f_X3_waiting_4 b x 4096 0 0
set_option maxRecDepth 100000 in
set_option maxHeartbeats 4000000 in
theorem p_X3_waiting (l : Launch) (E : TE) {b : Nat} (hB_b : IsB b) (x m : XS) (g o : Int64) {r : Int32} (hf : f_X3_waiting b x = some r) : MG l E yX3_waiting cX3_waiting 3 (some .int) 4 [rf E b] (Wd E x m g o) (Wd E x m g o) (some (.int r)) := by
  unfold f_X3_waiting at hf
  refine m_in (by decide) (Nat.le_of_ble_eq_true rfl) ?_
  intro p e s mi args below meth c H ls hx hb hr hlk hml hown hB hK hW hS hl
  have hl : lv_has ls 3 [(0, rf E b)] := hl
  have J4 : ∀ (n4 : Nat), ∀ (l1_4 : Int32) (l2_4 : Int32) (H : Heap) (locs : List Loc) (ls : Array Slot), f_X3_waiting_4 b x n4 l1_4 l2_4 = some r → Wd E x m g o H → va_S (Ah E) s.heap H locs → lv_has ls 3 [(0, rf E b), (1, .int l1_4), (2, .int l2_4)] → W p l e (rmH 4) s mi args below meth c H locs 0 0 (EQ E below args s (Wd E x m g o) (some (.int r))) (F0 mi 4 ls []) := by
    intro n4
    induction n4 with
    | zero => intro l1_4 l2_4 H locs ls hf; exact absurd hf (fun z => nomatch (show (none : Option (Int32)) = some _ from z))
    | succ n4 ih4 =>
      intro l1_4 l2_4 H locs ls hf hW hS hl
      rw [f_X3_waiting_4.eq_2] at hf
      have J26 : ∀ (l1_26 : Int32) (l2_26 : Int32) (H : Heap) (locs : List Loc) (ls : Array Slot), f_X3_waiting_26 b x (f_X3_waiting_4 b x n4) l1_26 l2_26 = some r → Wd E x m g o H → va_S (Ah E) s.heap H locs → lv_has ls 3 [(0, rf E b), (1, .int l1_26), (2, .int l2_26)] → W p l e (rmH 4) s mi args below meth c H locs 0 0 (EQ E below args s (Wd E x m g o) (some (.int r))) (F0 mi 26 ls []) := by
        intro l1_26 l2_26 H locs ls hf hW hS hl
        unfold f_X3_waiting_26 at hf
        obtain ⟨v26, e26, hf⟩ := ob hf
        refine lv_iinc (v := v26) (lv' := [(2, .int v26), (0, rf E b), (1, .int l1_26)]) hx hb dX3_waiting_26 hl (k := 2) rfl (by rw [e26]; rfl) (by decide) rfl (fun ls hl => ?_)
        refine lv_goto (tgt := 4) hx hb dX3_waiting_29 (by decide) ?_
        exact ih4 l1_26 v26 _ _ _ hf hW hS (lv_sub hl [1, 2, 0] rfl)
      refine lv_iload_n hx hb dX3_waiting_4 rfl (lv_at hl 2 rfl) ?_
      refine lv_aload_n hx hb dX3_waiting_5 rfl (lv_at hl 0 rfl) ?_
      refine gf_X3_21 hx hb hB hK hown hW hB_b dX3_waiting_6 ?_
      refine gf_X3_121 hx hb hB hK hown hW hB_b dX3_waiting_9 ?_
      refine lv_icmp_ge (tgt := 32) hx hb dX3_waiting_12 (by decide) (fun c12 => ?_) (fun c12 => ?_)
      · rw [if_pos c12] at hf
        refine lv_iload_n hx hb dX3_waiting_32 rfl (lv_at hl 1 rfl) ?_
        cases hf
        exact e_i hx hb hr hlk hW hS dX3_waiting_33
      · rw [if_neg c12] at hf
        refine lv_aload_n hx hb dX3_waiting_15 rfl (lv_at hl 0 rfl) ?_
        refine lv_iload_n hx hb dX3_waiting_16 rfl (lv_at hl 2 rfl) ?_
        obtain ⟨v17, e17, hf⟩ := ob2 hf
        refine c_V (As := [.int l2_4]) (st1 := [.int v17]) (rest := []) (p_X3_owedTo l E hB_b x m g o e17) (kc_X3_177 hB ⟨Nat.le_of_ble_eq_true rfl, Nat.le_of_ble_eq_true rfl⟩) (Wd.rec hK hW hB_b.l0 (cB_0 hB_b) (ci := 3) rfl) hx hb hml hown hB hK hW hS ⟨Nat.le_refl 0, Nat.le_refl 0⟩ rfl hl.1 rfl (Nat.le_of_ble_eq_true rfl) rfl dX3_waiting_17 (fun H locs hW hS => ?_)
        refine lv_if_le (tgt := 26) hx hb dX3_waiting_20 (by decide) (fun c20 => ?_) (fun c20 => ?_)
        · rw [if_pos c20] at hf
          exact J26 l1_4 l2_4 _ _ _ hf hW hS (lv_sub hl [0, 1, 2] rfl)
        · rw [if_neg c20] at hf
          obtain ⟨v23, e23, hf⟩ := ob hf
          refine lv_iinc (v := v23) (lv' := [(1, .int v23), (0, rf E b), (2, .int l2_4)]) hx hb dX3_waiting_23 hl (k := 1) rfl (by rw [e23]; rfl) (by decide) rfl (fun ls hl => ?_)
          exact J26 v23 l2_4 _ _ _ hf hW hS (lv_sub hl [1, 0, 2] rfl)
  refine lv_iconst (v := 0) hx hb dX3_waiting_0 (by decide) ?_
  refine lv_istore_n (lv' := [(1, .int 0), (0, rf E b)]) hx hb dX3_waiting_1 rfl hl (by decide) rfl (fun ls hl => ?_)
  refine lv_iconst (v := 0) hx hb dX3_waiting_2 (by decide) ?_
  refine lv_istore_n (lv' := [(2, .int 0), (1, .int 0), (0, rf E b)]) hx hb dX3_waiting_3 rfl hl (by decide) rfl (fun ls hl => ?_)
  exact J4 4096 0 0 _ _ _ hf hW hS (lv_sub hl [2, 1, 0] rfl)
def f_X3_departing_27 (b : Nat) (x : XS) (k4 : Int32 → Int32 → Option (Int32)) (l1_27 : Int32) (l2_27 : Int32) : Option (Int32) :=
    (some (l2_27 + 1)).bind fun v27 =>
    k4 l1_27 v27
def f_X3_departing_4 (b : Nat) (x : XS) : Nat → Int32 → Int32 → Option (Int32)
  | 0, _, _ => none
  | n4 + 1, l1_4, l2_4 =>
    if ((x (b + 7) 0) ≤ l2_4 : Prop) then
      some l1_4
    else
      ((f_X3_tieOf b x l2_4).bind fun v17 =>
      if (v17 = 3 : Prop) then
        ((some (l1_4 + 1)).bind fun v24 =>
        f_X3_departing_27 b x (f_X3_departing_4 b x n4) v24 l2_4)
      else
        f_X3_departing_27 b x (f_X3_departing_4 b x n4) l1_4 l2_4)
def f_X3_departing (b : Nat) (x : XS) : Option (Int32) :=
    f_X3_departing_4 b x 4096 0 0
set_option maxRecDepth 100000 in
set_option maxHeartbeats 4000000 in
theorem p_X3_departing (l : Launch) (E : TE) {b : Nat} (hB_b : IsB b) (x m : XS) (g o : Int64) {r : Int32} (hf : f_X3_departing b x = some r) : MG l E yX3_departing cX3_departing 3 (some .int) 3 [rf E b] (Wd E x m g o) (Wd E x m g o) (some (.int r)) := by
  unfold f_X3_departing at hf
  refine m_in (by decide) (Nat.le_of_ble_eq_true rfl) ?_
  intro p e s mi args below meth c H ls hx hb hr hlk hml hown hB hK hW hS hl
  have hl : lv_has ls 3 [(0, rf E b)] := hl
  have J4 : ∀ (n4 : Nat), ∀ (l1_4 : Int32) (l2_4 : Int32) (H : Heap) (locs : List Loc) (ls : Array Slot), f_X3_departing_4 b x n4 l1_4 l2_4 = some r → Wd E x m g o H → va_S (Ah E) s.heap H locs → lv_has ls 3 [(0, rf E b), (1, .int l1_4), (2, .int l2_4)] → W p l e (rmH 3) s mi args below meth c H locs 0 0 (EQ E below args s (Wd E x m g o) (some (.int r))) (F0 mi 4 ls []) := by
    intro n4
    induction n4 with
    | zero => intro l1_4 l2_4 H locs ls hf; exact absurd hf (fun z => nomatch (show (none : Option (Int32)) = some _ from z))
    | succ n4 ih4 =>
      intro l1_4 l2_4 H locs ls hf hW hS hl
      rw [f_X3_departing_4.eq_2] at hf
      have J27 : ∀ (l1_27 : Int32) (l2_27 : Int32) (H : Heap) (locs : List Loc) (ls : Array Slot), f_X3_departing_27 b x (f_X3_departing_4 b x n4) l1_27 l2_27 = some r → Wd E x m g o H → va_S (Ah E) s.heap H locs → lv_has ls 3 [(0, rf E b), (1, .int l1_27), (2, .int l2_27)] → W p l e (rmH 3) s mi args below meth c H locs 0 0 (EQ E below args s (Wd E x m g o) (some (.int r))) (F0 mi 27 ls []) := by
        intro l1_27 l2_27 H locs ls hf hW hS hl
        unfold f_X3_departing_27 at hf
        obtain ⟨v27, e27, hf⟩ := ob hf
        refine lv_iinc (v := v27) (lv' := [(2, .int v27), (0, rf E b), (1, .int l1_27)]) hx hb dX3_departing_27 hl (k := 2) rfl (by rw [e27]; rfl) (by decide) rfl (fun ls hl => ?_)
        refine lv_goto (tgt := 4) hx hb dX3_departing_30 (by decide) ?_
        exact ih4 l1_27 v27 _ _ _ hf hW hS (lv_sub hl [1, 2, 0] rfl)
      refine lv_iload_n hx hb dX3_departing_4 rfl (lv_at hl 2 rfl) ?_
      refine lv_aload_n hx hb dX3_departing_5 rfl (lv_at hl 0 rfl) ?_
      refine gf_X3_21 hx hb hB hK hown hW hB_b dX3_departing_6 ?_
      refine gf_X3_121 hx hb hB hK hown hW hB_b dX3_departing_9 ?_
      refine lv_icmp_ge (tgt := 33) hx hb dX3_departing_12 (by decide) (fun c12 => ?_) (fun c12 => ?_)
      · rw [if_pos c12] at hf
        refine lv_iload_n hx hb dX3_departing_33 rfl (lv_at hl 1 rfl) ?_
        cases hf
        exact e_i hx hb hr hlk hW hS dX3_departing_34
      · rw [if_neg c12] at hf
        refine lv_aload_n hx hb dX3_departing_15 rfl (lv_at hl 0 rfl) ?_
        refine lv_iload_n hx hb dX3_departing_16 rfl (lv_at hl 2 rfl) ?_
        obtain ⟨v17, e17, hf⟩ := ob2 hf
        refine c_V (As := [.int l2_4]) (st1 := [.int v17]) (rest := []) (p_X3_tieOf l E hB_b x m g o e17) (kc_X3_124 hB ⟨Nat.le_of_ble_eq_true rfl, Nat.le_of_ble_eq_true rfl⟩) (Wd.rec hK hW hB_b.l0 (cB_0 hB_b) (ci := 3) rfl) hx hb hml hown hB hK hW hS ⟨Nat.le_refl 0, Nat.le_refl 0⟩ rfl hl.1 rfl (Nat.le_of_ble_eq_true rfl) rfl dX3_departing_17 (fun H locs hW hS => ?_)
        refine lv_iconst (v := 3) hx hb dX3_departing_20 (by decide) ?_
        refine lv_icmp_ne (tgt := 27) hx hb dX3_departing_21 (by decide) (fun c21 => ?_) (fun c21 => ?_)
        · rw [if_neg c21] at hf
          exact J27 l1_4 l2_4 _ _ _ hf hW hS (lv_sub hl [0, 1, 2] rfl)
        · rw [if_pos c21] at hf
          obtain ⟨v24, e24, hf⟩ := ob hf
          refine lv_iinc (v := v24) (lv' := [(1, .int v24), (0, rf E b), (2, .int l2_4)]) hx hb dX3_departing_24 hl (k := 1) rfl (by rw [e24]; rfl) (by decide) rfl (fun ls hl => ?_)
          exact J27 v24 l2_4 _ _ _ hf hW hS (lv_sub hl [1, 0, 2] rfl)
  refine lv_iconst (v := 0) hx hb dX3_departing_0 (by decide) ?_
  refine lv_istore_n (lv' := [(1, .int 0), (0, rf E b)]) hx hb dX3_departing_1 rfl hl (by decide) rfl (fun ls hl => ?_)
  refine lv_iconst (v := 0) hx hb dX3_departing_2 (by decide) ?_
  refine lv_istore_n (lv' := [(2, .int 0), (1, .int 0), (0, rf E b)]) hx hb dX3_departing_3 rfl hl (by decide) rfl (fun ls hl => ?_)
  exact J4 4096 0 0 _ _ _ hf hW hS (lv_sub hl [2, 1, 0] rfl)
def f_X3_owedInAll_4 (b : Nat) (x : XS) : Nat → Int32 → Int32 → Option (Int32)
  | 0, _, _ => none
  | n4 + 1, l1_4, l2_4 =>
    if (4 ≤ l2_4 : Prop) then
      some l1_4
    else
      ((f_X3_owedInKind b x l2_4).bind fun v12 =>
      (some ((l1_4 + v12))).bind fun v16 =>
      (some (l2_4 + 1)).bind fun v17 =>
      f_X3_owedInAll_4 b x n4 v16 v17)
def f_X3_owedInAll (b : Nat) (x : XS) : Option (Int32) :=
    f_X3_owedInAll_4 b x 4096 0 0
set_option maxRecDepth 100000 in
set_option maxHeartbeats 4000000 in
theorem p_X3_owedInAll (l : Launch) (E : TE) {b : Nat} (hB_b : IsB b) (x m : XS) (g o : Int64) {r : Int32} (hf : f_X3_owedInAll b x = some r) : MG l E yX3_owedInAll cX3_owedInAll 3 (some .int) 5 [rf E b] (Wd E x m g o) (Wd E x m g o) (some (.int r)) := by
  unfold f_X3_owedInAll at hf
  refine m_in (by decide) (Nat.le_of_ble_eq_true rfl) ?_
  intro p e s mi args below meth c H ls hx hb hr hlk hml hown hB hK hW hS hl
  have hl : lv_has ls 3 [(0, rf E b)] := hl
  have J4 : ∀ (n4 : Nat), ∀ (l1_4 : Int32) (l2_4 : Int32) (H : Heap) (locs : List Loc) (ls : Array Slot), f_X3_owedInAll_4 b x n4 l1_4 l2_4 = some r → Wd E x m g o H → va_S (Ah E) s.heap H locs → lv_has ls 3 [(0, rf E b), (1, .int l1_4), (2, .int l2_4)] → W p l e (rmH 5) s mi args below meth c H locs 0 0 (EQ E below args s (Wd E x m g o) (some (.int r))) (F0 mi 4 ls []) := by
    intro n4
    induction n4 with
    | zero => intro l1_4 l2_4 H locs ls hf; exact absurd hf (fun z => nomatch (show (none : Option (Int32)) = some _ from z))
    | succ n4 ih4 =>
      intro l1_4 l2_4 H locs ls hf hW hS hl
      rw [f_X3_owedInAll_4.eq_2] at hf
      refine lv_iload_n hx hb dX3_owedInAll_4 rfl (lv_at hl 2 rfl) ?_
      refine lv_iconst (v := 4) hx hb dX3_owedInAll_5 (by decide) ?_
      refine lv_icmp_ge (tgt := 23) hx hb dX3_owedInAll_6 (by decide) (fun c6 => ?_) (fun c6 => ?_)
      · rw [if_pos c6] at hf
        refine lv_iload_n hx hb dX3_owedInAll_23 rfl (lv_at hl 1 rfl) ?_
        cases hf
        exact e_i hx hb hr hlk hW hS dX3_owedInAll_24
      · rw [if_neg c6] at hf
        refine lv_iload_n hx hb dX3_owedInAll_9 rfl (lv_at hl 1 rfl) ?_
        refine lv_aload_n hx hb dX3_owedInAll_10 rfl (lv_at hl 0 rfl) ?_
        refine lv_iload_n hx hb dX3_owedInAll_11 rfl (lv_at hl 2 rfl) ?_
        obtain ⟨v12, e12, hf⟩ := ob2 hf
        refine c_V (As := [.int l2_4]) (st1 := [.int v12, .int l1_4]) (rest := [.int l1_4]) (p_X3_owedInKind l E hB_b x m g o e12) (kc_X3_180 hB ⟨Nat.le_of_ble_eq_true rfl, Nat.le_of_ble_eq_true rfl⟩) (Wd.rec hK hW hB_b.l0 (cB_0 hB_b) (ci := 3) rfl) hx hb hml hown hB hK hW hS ⟨Nat.le_refl 0, Nat.le_refl 0⟩ rfl hl.1 rfl (Nat.le_of_ble_eq_true rfl) rfl dX3_owedInAll_12 (fun H locs hW hS => ?_)
        refine lv_iadd hx hb dX3_owedInAll_15 ?_
        obtain ⟨v16, e16, hf⟩ := ob hf
        refine lv_nm e16 ?_
        refine lv_istore_n (lv' := [(1, .int v16), (0, rf E b), (2, .int l2_4)]) hx hb dX3_owedInAll_16 rfl hl (by decide) rfl (fun ls hl => ?_)
        obtain ⟨v17, e17, hf⟩ := ob hf
        refine lv_iinc (v := v17) (lv' := [(2, .int v17), (1, .int v16), (0, rf E b)]) hx hb dX3_owedInAll_17 hl (k := 2) rfl (by rw [e17]; rfl) (by decide) rfl (fun ls hl => ?_)
        refine lv_goto (tgt := 4) hx hb dX3_owedInAll_20 (by decide) ?_
        exact ih4 v16 v17 _ _ _ hf hW hS (lv_sub hl [2, 1, 0] rfl)
  refine lv_iconst (v := 0) hx hb dX3_owedInAll_0 (by decide) ?_
  refine lv_istore_n (lv' := [(1, .int 0), (0, rf E b)]) hx hb dX3_owedInAll_1 rfl hl (by decide) rfl (fun ls hl => ?_)
  refine lv_iconst (v := 0) hx hb dX3_owedInAll_2 (by decide) ?_
  refine lv_istore_n (lv' := [(2, .int 0), (1, .int 0), (0, rf E b)]) hx hb dX3_owedInAll_3 rfl hl (by decide) rfl (fun ls hl => ?_)
  exact J4 4096 0 0 _ _ _ hf hW hS (lv_sub hl [2, 1, 0] rfl)
end
