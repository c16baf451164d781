/-! ===== the words that every method has ===== -/
def BG : List Cond := lw_tbl.filter goodWord
theorem bg {w : Cond} (i : Nat) (h : lw_tbl[i]? = some w) (g : goodWord w = true) : w ∈ BG := List.mem_filter.mpr ⟨List.mem_of_getElem? h, g⟩
theorem bg_good : GoodIn BG BG := fun w hw => ⟨hw, good_of_word (List.mem_filter.mp hw).2⟩
abbrev rmH (d : Nat) : Room := { frames := d, cells := 0, slots := 0, locals := 28 * d }
abbrev wsM (y : MethodName) (b : ByteArray) (n : Nat) (ret : Option FieldType) : List Cond := .code y b n ret :: BG
theorem wsM_good {y : MethodName} {b : ByteArray} {n : Nat} {ret : Option FieldType} (h : Cond.code y b n ret ∈ BG) : GoodIn BG (wsM y b n ret) := by
  intro w hw
  rcases List.mem_cons.mp hw with rfl | hw
  · exact bg_good _ h
  · exact bg_good w hw
def NWf : List (String × Nat × String × String × String × String) := [("AmendsLedger", 92, "AmendsLedger$Complaints", "size", "I", "AmendsLedger"), ("AmendsLedger$State", 121, "AmendsLedger$Complaints", "size", "I", "AmendsLedger"), ("AmendsLedger", 234, "AmendsLedger$Precedents", "size", "I", "AmendsLedger"), ("AmendsLedger$State", 45, "AmendsLedger", "FIRST_SETTING", "[I", "AmendsLedger"), ("AmendsLedger", 42, "AmendsLedger$State", "menus", "LAmendsLedger$Menus;", "AmendsLedger"), ("AmendsLedger", 88, "AmendsLedger$State", "complaints", "LAmendsLedger$Complaints;", "AmendsLedger"), ("AmendsLedger", 179, "AmendsLedger$State", "precedents", "LAmendsLedger$Precedents;", "AmendsLedger"), ("AmendsLedger", 125, "AmendsLedger$State", "month", "I", "AmendsLedger")]
def NWm : List (String × Nat × MethodName × String) := [("AmendsLedger$State", 11, ⟨"AmendsLedger$Menus", "<init>", "()V"⟩, "AmendsLedger"), ("AmendsLedger$State", 20, ⟨"AmendsLedger$Complaints", "<init>", "()V"⟩, "AmendsLedger"), ("AmendsLedger$State", 48, ⟨"AmendsLedger", "copyAll", "([I[I)V"⟩, "AmendsLedger"), ("AmendsLedger$Menus", 31, ⟨"AmendsLedger", "isKind", "(I)Z"⟩, "AmendsLedger"), ("AmendsLedger$Menus", 27, ⟨"AmendsLedger", "copyAll", "([I[I)V"⟩, "AmendsLedger"), ("AmendsLedger$Complaints", 43, ⟨"AmendsLedger", "copyAll", "([I[I)V"⟩, "AmendsLedger"), ("AmendsLedger$Precedents", 34, ⟨"AmendsLedger", "copyAll", "([I[I)V"⟩, "AmendsLedger"), ("AmendsLedger$State", 76, ⟨"AmendsLedger", "isKind", "(I)Z"⟩, "AmendsLedger"), ("AmendsLedger$State", 72, ⟨"AmendsLedger", "isSetting", "(I)Z"⟩, "AmendsLedger"), ("AmendsLedger$Precedents", 38, ⟨"AmendsLedger", "isKind", "(I)Z"⟩, "AmendsLedger"), ("AmendsLedger$Precedents", 42, ⟨"AmendsLedger", "isGroup", "(I)Z"⟩, "AmendsLedger"), ("AmendsLedger$Menus", 46, ⟨"AmendsLedger", "isWithin", "(III)Z"⟩, "AmendsLedger")]
def NWc : List (String × String) := [("java/lang/IndexOutOfBoundsException", "java/lang/IndexOutOfBoundsException"), ("java/lang/IllegalArgumentException", "java/lang/IllegalArgumentException"), ("java/lang/IllegalStateException", "java/lang/IllegalStateException")]
def NWd : List MethodName := [⟨"java/lang/RuntimeException", "<init>", "()V"⟩, ⟨"java/lang/RuntimeException", "<init>", "(Ljava/lang/String;)V"⟩, ⟨"java/lang/Exception", "<init>", "()V"⟩, ⟨"java/lang/Exception", "<init>", "(Ljava/lang/String;)V"⟩, ⟨"java/lang/Throwable", "<init>", "()V"⟩, ⟨"java/lang/Throwable", "<init>", "(Ljava/lang/String;)V"⟩]
def NW : List Cond := NWf.map (fun q => .fieldLinkNest q.1 q.2.1 q.2.2.1 q.2.2.2.1 q.2.2.2.2.1 q.2.2.2.2.2) ++ (NWm.map (fun q => .methodLinkNest q.1 q.2.1 q.2.2.1 q.2.2.2) ++ (NWc.map (fun q => .castable q.1 q.2) ++ NWd.map (fun y => .declares y)))
theorem NW_go {s U : State} (hW : s.WarmedH U.vm) (h : ∀ w ∈ NW, va_Nw w s) : ∀ w ∈ NW, va_Nw w U := by
  intro w hw
  have h1 := h w hw
  rcases List.mem_append.mp hw with hw | hw
  · obtain ⟨q, -, rfl⟩ := List.mem_map.mp hw
    exact va_Nw.warmF hW h1
  rcases List.mem_append.mp hw with hw | hw
  · obtain ⟨q, -, rfl⟩ := List.mem_map.mp hw
    exact va_Nw.warmM hW h1
  rcases List.mem_append.mp hw with hw | hw
  · obtain ⟨q, -, rfl⟩ := List.mem_map.mp hw
    exact va_Nw.warmC hW h1
  · obtain ⟨q, -, rfl⟩ := List.mem_map.mp hw
    exact va_Nw.warmD hW h1
def NCL : List (String × String) := [("java/lang/IndexOutOfBoundsException", "java/lang/IllegalArgumentException"), ("java/lang/IndexOutOfBoundsException", "java/lang/IllegalStateException"), ("java/lang/IllegalArgumentException", "java/lang/IndexOutOfBoundsException"), ("java/lang/IllegalArgumentException", "java/lang/IllegalStateException"), ("java/lang/IllegalStateException", "java/lang/IndexOutOfBoundsException"), ("java/lang/IllegalStateException", "java/lang/IllegalArgumentException")]
/-! ===== the launch's own addresses and classes ===== -/
abbrev TE : Type := va_G × (ClassId × ClassId × ClassId) × Nat × (Nat × Nat × Nat)
abbrev eD (E : TE) : va_G := E.1
abbrev eI (E : TE) : ClassId := E.2.1.1
abbrev eS (E : TE) : ClassId := E.2.1.2.1
abbrev eL (E : TE) : ClassId := E.2.1.2.2
abbrev eh (E : TE) : Nat := E.2.2.1
abbrev eF (E : TE) : Nat := E.2.2.2.1
abbrev eM (E : TE) : Nat := E.2.2.2.2.1
abbrev eG (E : TE) : Nat := E.2.2.2.2.2
abbrev tyE (E : TE) : List (ClassId × FieldType) := [(eI E, .int), (eS E, .object "AmendsLedger$State"), (eL E, .long)]
abbrev Ah (E : TE) : Nat → Prop := fun q => eh E ≤ q
def fF (j : Nat) : Int32 := if j = 0 then 2 else if j = 1 then 1 else 50
def fM (j : Nat) : Int32 := if j = 0 then 1 else 0
def fG (j : Nat) : Int32 := if j = 0 then 6 else if j = 1 then 3 else 100
abbrev stA (n : String) (a : Nat) (f : Nat → Int32) (E : TE) (U : State) : Prop := va_Z "AmendsLedger" n "[I" (.ref a) (Ah E) U U.heap ∧ va_T .int a 3 (fun j => .int (f j)) (Ah E) U U.heap
abbrev Sts (E : TE) (U : State) : Prop := stA "FIRST_SETTING" (eF E) fF E U ∧ stA "LEAST_SETTING" (eM E) fM E U ∧ stA "GREATEST_SETTING" (eG E) fG E U
abbrev Thr (E : TE) (U : State) : Prop := vx_Zq Bundle.tN "UNASSIGNED_STACK" Bundle.steD (Ah E) U U.heap ∧ vx_Zq Bundle.tN "SUPPRESSED_SENTINEL" Bundle.listD (Ah E) U U.heap
def Ks (E : TE) (U : State) : Prop := va_K (eD E) vwCl (tyE E) U ∧ (∀ w ∈ NW, va_Nw w U) ∧ Sts E U ∧ Thr E U ∧ ∀ q ∈ NCL, va_Nc q.1 q.2 U
theorem Ks.K {E : TE} {U : State} (h : Ks E U) : va_K (eD E) vwCl (tyE E) U := h.1
theorem Ks.nw {E : TE} {U : State} (h : Ks E U) {w : Cond} (hw : w ∈ NW) : va_Nw w U := h.2.1 w hw
theorem stA.go {n : String} {a : Nat} {f : Nat → Int32} {E : TE} {s U : State} {H : Heap} {locs : List Loc} (h : stA n a f E s) (hvm : s.vm.Alike U.vm) (hS : va_S (Ah E) s.heap H locs) (hh : U.heap = H) : stA n a f E U :=
  ⟨by rw [hh]; exact va_Z.moved hvm (h.1.kept hS.2.1), by rw [hh]; exact va_T.moved hvm (h.2.kept hS.2.1)⟩
theorem Ks.go {E : TE} {s U : State} {H : Heap} {locs : List Loc} (h : Ks E s) (hW : s.WarmedH U.vm) (hS : va_S (Ah E) s.heap H locs) (hh : U.heap = H) : Ks E U := by
  obtain ⟨h1, h2, ⟨a1, a2, a3⟩, ⟨t1, t2⟩, n1⟩ := h
  refine ⟨va_K.moved hW.alike h1, NW_go hW h2, ⟨a1.go hW.alike hS hh, a2.go hW.alike hS hh, a3.go hW.alike hS hh⟩, ⟨?_, ?_⟩, fun q hq => va_Nc.moved hW.alike (n1 q hq)⟩
  · rw [hh]; exact vx_Zq.moved hW.alike (t1.kept hS.2.1)
  · rw [hh]; exact vx_Zq.moved hW.alike (t2.kept hS.2.1)
theorem Ks.same {E : TE} {u U : State} (h : Ks E u) (hvm : u.vm = U.vm) (hh : u.heap = U.heap) : Ks E U := by
  have hW : u.WarmedH U.vm := by rw [← hvm]; exact State.WarmedH.refl u
  exact h.go hW (H := U.heap) (locs := []) (by rw [hh]; exact va_S.rf) rfl
/-! ===== the world ===== -/
abbrev XS : Type := Nat → Nat → Int32
def ux (x : XS) (k j : Nat) (v : Int32) : XS := fun k' j' => if k' = k ∧ j' = j then v else x k' j'
theorem ux_ne {x : XS} {k j q : Nat} {v : Int32} (h : q ≠ k) : ux x k j v q = x q := by funext j'; simp [ux, h]
theorem ux_eq {x : XS} {k j : Nat} {v : Int32} : ux x k j v k = upd (x k) j v := by funext j'; simp [ux, upd]
def aget (n : Nat) (f : Nat → Int32) (i : Int32) : Option Int32 := if i < 0 ∨ n ≤ i.toNatClampNeg then none else some (f i.toNatClampNeg)
def aset (x : XS) (k n : Nat) (i : Int32) (v : Int32) : Option XS := if i < 0 ∨ n ≤ i.toNatClampNeg then none else some (ux x k i.toNatClampNeg v)
theorem aget_some {n : Nat} {f : Nat → Int32} {i v : Int32} (h : aget n f i = some v) : vp_in i n ∧ f i.toNatClampNeg = v := by
  unfold aget at h
  split at h
  · cases h
  · rename_i g; exact ⟨g, Option.some.inj h⟩
theorem aset_some {x x1 : XS} {k n : Nat} {i v : Int32} (h : aset x k n i v = some x1) : vp_in i n ∧ ux x k i.toNatClampNeg v = x1 := by
  unfold aset at h
  split at h
  · cases h
  · rename_i g; exact ⟨g, Option.some.inj h⟩
abbrev rf (E : TE) (k : Nat) : Value := .ref (eh E + k)
abbrev ar (E : TE) (n : Nat) (f : Nat → Int32) : va_E := .inl (eI E, n, .inl f)
def blkC (E : TE) (b j : Nat) (f : Nat → Int32) : va_E :=
  if j = 0 then .inr (3, [rf E (b + 1), rf E (b + 7), rf E (b + 17), rf E (b + 22), rf E (b + 23), rf E (b + 24), rf E (b + 25), .int (f 7)])
  else if j = 1 then .inr (1, [rf E (b + 2), rf E (b + 3), rf E (b + 4), rf E (b + 5), rf E (b + 6)])
  else if j = 2 then ar E 4 f
  else if j < 7 then ar E 24 f
  else if j = 7 then .inr (0, [.int (f 0), rf E (b + 8), rf E (b + 9), rf E (b + 10), rf E (b + 11), rf E (b + 12), rf E (b + 13), rf E (b + 14), rf E (b + 15), rf E (b + 16)])
  else if j < 17 then ar E 24 f
  else if j = 17 then .inr (2, [.int (f 0), rf E (b + 18), rf E (b + 19), rf E (b + 20), rf E (b + 21)])
  else if j < 21 then ar E 24 f
  else if j = 21 then ar E 12 f
  else if j = 22 then ar E 3 f
  else ar E 4 f
def cellF (E : TE) (k : Nat) (f : Nat → Int32) (h o : Int64) : va_E :=
  if k = 0 then .inr (4, [rf E 1, rf E 27, rf E 53, .int (f 3), .int (f 4), rf E 54, .int (f 6)])
  else if k < 53 then blkC E (1 + 26 * ((k - 1) / 26)) ((k - 1) % 26) f
  else if k = 53 then .inl (eS E, 6, .inr (.inr (.inr (.inr (fun i => some (eh E + (55 + 26 * i)))))))
  else if k = 54 then ar E 60 f
  else if k < 211 then blkC E (55 + 26 * ((k - 55) / 26)) ((k - 55) % 26) f
  else if k = 211 then .inr (5, [rf E 212, rf E 213, rf E 214, .int (f 3), rf E 215, .int (f 5), .int (f 6), .int (f 7), .int (f 8), .int (f 9), rf E 216, .long h])
  else if k = 212 then ar E 442 f
  else if k = 213 then ar E 2652 f
  else if k = 214 then ar E 442 f
  else if k = 215 then ar E 60 f
  else if k = 216 then ar E 45 f
  else .inl (eL E, 1, .inr (.inl (fun _ => o)))
def rowV (x m : XS) (k : Nat) : Nat → Int32 := if k < 211 then x k else m (k - 211)
def cellV (E : TE) (x m : XS) (h o : Int64) (k : Nat) : va_E := cellF E k (rowV x m k) h o
def Wd (E : TE) (x m : XS) (h o : Int64) (H : Heap) : Prop := eh E + 218 ≤ H.size ∧ ∀ k, k < 218 → va_at (eD E) vwCl (eh E + k, cellV E x m h o k) H
def IsB (b : Nat) : Prop := b = 1 ∨ b = 27 ∨ ∃ i, i < 6 ∧ b = 55 + 26 * i
theorem IsB1 : IsB 1 := Or.inl rfl
theorem IsB27 : IsB 27 := Or.inr (Or.inl rfl)
theorem IsB.lt {b : Nat} (h : IsB b) {j : Nat} (hj : j < 26) : b + j < 211 := by
  rcases h with h | h | ⟨i, hi, h⟩ <;> omega
theorem IsB.lt0 {b : Nat} (h : IsB b) : b < 211 := h.lt (j := 0) (by omega)
theorem cellV_blk {E : TE} {x m : XS} {h o : Int64} {b : Nat} (hb : IsB b) (j : Nat) (hj : j < 26) : cellV E x m h o (b + j) = blkC E b j (x (b + j)) := by
  have hlt := hb.lt hj
  unfold cellV rowV
  rw [if_pos hlt]
  unfold cellF
  rcases hb with h | h | ⟨i, hi, h⟩
  · subst h
    rw [if_neg (by omega), if_pos (by omega), show (1 + j - 1) / 26 = 0 by omega, show (1 + j - 1) % 26 = j by omega]
  · subst h
    rw [if_neg (by omega), if_pos (by omega), show (27 + j - 1) / 26 = 1 by omega, show (27 + j - 1) % 26 = j by omega]
  · subst h
    rw [if_neg (by omega), if_neg (by omega), if_neg (by omega), if_neg (by omega), if_pos (by omega), show (55 + 26 * i + j - 55) / 26 = i by omega, show (55 + 26 * i + j - 55) % 26 = j by omega]
theorem cX_0 {E : TE} {x m : XS} {h o : Int64} : cellV E x m h o 0 = .inr (4, [rf E 1, rf E 27, rf E 53, .int (x 0 3), .int (x 0 4), rf E 54, .int (x 0 6)]) := rfl
theorem cX_53 {E : TE} {x m : XS} {h o : Int64} : cellV E x m h o 53 = .inl (eS E, 6, .inr (.inr (.inr (.inr (fun i => some (eh E + (55 + 26 * i))))))) := rfl
theorem cX_54 {E : TE} {x m : XS} {h o : Int64} : cellV E x m h o 54 = ar E 60 (x 54) := rfl
theorem cM_0 {E : TE} {x m : XS} {h o : Int64} : cellV E x m h o 211 = .inr (5, [rf E 212, rf E 213, rf E 214, .int (m 0 3), rf E 215, .int (m 0 5), .int (m 0 6), .int (m 0 7), .int (m 0 8), .int (m 0 9), rf E 216, .long h]) := rfl
theorem cM_1 {E : TE} {x m : XS} {h o : Int64} : cellV E x m h o 212 = ar E 442 (m 1) := rfl
theorem cM_2 {E : TE} {x m : XS} {h o : Int64} : cellV E x m h o 213 = ar E 2652 (m 2) := rfl
theorem cM_3 {E : TE} {x m : XS} {h o : Int64} : cellV E x m h o 214 = ar E 442 (m 3) := rfl
theorem cM_4 {E : TE} {x m : XS} {h o : Int64} : cellV E x m h o 215 = ar E 60 (m 4) := rfl
theorem cM_5 {E : TE} {x m : XS} {h o : Int64} : cellV E x m h o 216 = ar E 45 (m 5) := rfl
theorem cO {E : TE} {x m : XS} {h o : Int64} : cellV E x m h o 217 = .inl (eL E, 1, .inr (.inl (fun _ => o))) := rfl
theorem cB_0 {E : TE} {x m : XS} {h o : Int64} {b : Nat} (hb : IsB b) : cellV E x m h o b = .inr (3, [rf E (b + 1), rf E (b + 7), rf E (b + 17), rf E (b + 22), rf E (b + 23), rf E (b + 24), rf E (b + 25), .int (x b 7)]) := cellV_blk hb 0 (by omega)
theorem cB_1 {E : TE} {x m : XS} {h o : Int64} {b : Nat} (hb : IsB b) : cellV E x m h o (b + 1) = .inr (1, [rf E (b + 2), rf E (b + 3), rf E (b + 4), rf E (b + 5), rf E (b + 6)]) := cellV_blk hb 1 (by omega)
theorem cB_7 {E : TE} {x m : XS} {h o : Int64} {b : Nat} (hb : IsB b) : cellV E x m h o (b + 7) = .inr (0, [.int (x (b + 7) 0), rf E (b + 8), rf E (b + 9), rf E (b + 10), rf E (b + 11), rf E (b + 12), rf E (b + 13), rf E (b + 14), rf E (b + 15), rf E (b + 16)]) := cellV_blk hb 7 (by omega)
theorem cB_17 {E : TE} {x m : XS} {h o : Int64} {b : Nat} (hb : IsB b) : cellV E x m h o (b + 17) = .inr (2, [.int (x (b + 17) 0), rf E (b + 18), rf E (b + 19), rf E (b + 20), rf E (b + 21)]) := cellV_blk hb 17 (by omega)
theorem cB_2 {E : TE} {x m : XS} {h o : Int64} {b : Nat} (hb : IsB b) : cellV E x m h o (b + 2) = ar E 4 (x (b + 2)) := cellV_blk hb 2 (by omega)
theorem cB_3 {E : TE} {x m : XS} {h o : Int64} {b : Nat} (hb : IsB b) : cellV E x m h o (b + 3) = ar E 24 (x (b + 3)) := cellV_blk hb 3 (by omega)
theorem cB_4 {E : TE} {x m : XS} {h o : Int64} {b : Nat} (hb : IsB b) : cellV E x m h o (b + 4) = ar E 24 (x (b + 4)) := cellV_blk hb 4 (by omega)
theorem cB_5 {E : TE} {x m : XS} {h o : Int64} {b : Nat} (hb : IsB b) : cellV E x m h o (b + 5) = ar E 24 (x (b + 5)) := cellV_blk hb 5 (by omega)
theorem cB_6 {E : TE} {x m : XS} {h o : Int64} {b : Nat} (hb : IsB b) : cellV E x m h o (b + 6) = ar E 24 (x (b + 6)) := cellV_blk hb 6 (by omega)
theorem cB_8 {E : TE} {x m : XS} {h o : Int64} {b : Nat} (hb : IsB b) : cellV E x m h o (b + 8) = ar E 24 (x (b + 8)) := cellV_blk hb 8 (by omega)
theorem cB_9 {E : TE} {x m : XS} {h o : Int64} {b : Nat} (hb : IsB b) : cellV E x m h o (b + 9) = ar E 24 (x (b + 9)) := cellV_blk hb 9 (by omega)
theorem cB_10 {E : TE} {x m : XS} {h o : Int64} {b : Nat} (hb : IsB b) : cellV E x m h o (b + 10) = ar E 24 (x (b + 10)) := cellV_blk hb 10 (by omega)
theorem cB_11 {E : TE} {x m : XS} {h o : Int64} {b : Nat} (hb : IsB b) : cellV E x m h o (b + 11) = ar E 24 (x (b + 11)) := cellV_blk hb 11 (by omega)
theorem cB_12 {E : TE} {x m : XS} {h o : Int64} {b : Nat} (hb : IsB b) : cellV E x m h o (b + 12) = ar E 24 (x (b + 12)) := cellV_blk hb 12 (by omega)
theorem cB_13 {E : TE} {x m : XS} {h o : Int64} {b : Nat} (hb : IsB b) : cellV E x m h o (b + 13) = ar E 24 (x (b + 13)) := cellV_blk hb 13 (by omega)
theorem cB_14 {E : TE} {x m : XS} {h o : Int64} {b : Nat} (hb : IsB b) : cellV E x m h o (b + 14) = ar E 24 (x (b + 14)) := cellV_blk hb 14 (by omega)
theorem cB_15 {E : TE} {x m : XS} {h o : Int64} {b : Nat} (hb : IsB b) : cellV E x m h o (b + 15) = ar E 24 (x (b + 15)) := cellV_blk hb 15 (by omega)
theorem cB_16 {E : TE} {x m : XS} {h o : Int64} {b : Nat} (hb : IsB b) : cellV E x m h o (b + 16) = ar E 24 (x (b + 16)) := cellV_blk hb 16 (by omega)
theorem cB_18 {E : TE} {x m : XS} {h o : Int64} {b : Nat} (hb : IsB b) : cellV E x m h o (b + 18) = ar E 24 (x (b + 18)) := cellV_blk hb 18 (by omega)
theorem cB_19 {E : TE} {x m : XS} {h o : Int64} {b : Nat} (hb : IsB b) : cellV E x m h o (b + 19) = ar E 24 (x (b + 19)) := cellV_blk hb 19 (by omega)
theorem cB_20 {E : TE} {x m : XS} {h o : Int64} {b : Nat} (hb : IsB b) : cellV E x m h o (b + 20) = ar E 24 (x (b + 20)) := cellV_blk hb 20 (by omega)
theorem cB_21 {E : TE} {x m : XS} {h o : Int64} {b : Nat} (hb : IsB b) : cellV E x m h o (b + 21) = ar E 12 (x (b + 21)) := cellV_blk hb 21 (by omega)
theorem cB_22 {E : TE} {x m : XS} {h o : Int64} {b : Nat} (hb : IsB b) : cellV E x m h o (b + 22) = ar E 3 (x (b + 22)) := cellV_blk hb 22 (by omega)
theorem cB_23 {E : TE} {x m : XS} {h o : Int64} {b : Nat} (hb : IsB b) : cellV E x m h o (b + 23) = ar E 4 (x (b + 23)) := cellV_blk hb 23 (by omega)
theorem cB_24 {E : TE} {x m : XS} {h o : Int64} {b : Nat} (hb : IsB b) : cellV E x m h o (b + 24) = ar E 4 (x (b + 24)) := cellV_blk hb 24 (by omega)
theorem cB_25 {E : TE} {x m : XS} {h o : Int64} {b : Nat} (hb : IsB b) : cellV E x m h o (b + 25) = ar E 4 (x (b + 25)) := cellV_blk hb 25 (by omega)
theorem Wd.at {E : TE} {x m : XS} {h o : Int64} {H : Heap} (hW : Wd E x m h o H) {k : Nat} (hk : k < 218) {c : va_E} (hc : cellV E x m h o k = c) : va_P (eD E) vwCl [(eh E + k, c)] H := by
  intro i q hq
  have hz : i < 1 := (List.getElem?_eq_some_iff.mp hq).1
  rw [show i = 0 by omega] at hq
  cases hq
  rw [← hc]
  exact hW.2 k hk
theorem Wd.upd {E : TE} {x m x1 m1 : XS} {h o h1 o1 : Int64} {H H1 : Heap} (hW : Wd E x m h o H) {k : Nat} (hk : k < 218) {c : va_E} (hc : cellV E x1 m1 h1 o1 k = c) (hat : va_at (eD E) vwCl (eh E + k, c) H1) (hz : H1.size = H.size) (ho : ∀ q : Nat, q ≠ eh E + k → H1[q]? = H[q]?)
    (hs : ∀ q, q < 218 → q ≠ k → cellV E x1 m1 h1 o1 q = cellV E x m h o q) : Wd E x1 m1 h1 o1 H1 := by
  refine ⟨by rw [hz]; exact hW.1, fun q hq => ?_⟩
  by_cases e : q = k
  · subst e; rw [hc]; exact hat
  · rw [hs q hq e]; exact (hW.2 q hq).kept (ho _ (by show eh E + q ≠ eh E + k; omega))
theorem cellV_ux {E : TE} {x m : XS} {h o : Int64} {k j : Nat} {v : Int32} : ∀ q, q < 218 → q ≠ k → cellV E (ux x k j v) m h o q = cellV E x m h o q := by
  intro q _ hq; unfold cellV rowV; rw [ux_ne hq]
theorem cellV_um {E : TE} {x m : XS} {h o : Int64} {k j : Nat} {v : Int32} : ∀ q, q < 218 → q ≠ 211 + k → cellV E x (ux m k j v) h o q = cellV E x m h o q := by
  intro q _ hq; unfold cellV rowV
  by_cases h1 : q < 211
  · rw [if_pos h1, if_pos h1]
  · rw [if_neg h1, if_neg h1, ux_ne (by omega)]
theorem cellV_h {E : TE} {x m : XS} {h h1 o : Int64} : ∀ q, q < 218 → q ≠ 211 → cellV E x m h1 o q = cellV E x m h o q := by
  intro q _ hq; unfold cellV cellF
  by_cases h0 : q = 211
  · exact absurd h0 hq
  · simp [h0]
theorem cellV_o {E : TE} {x m : XS} {h o o1 : Int64} : ∀ q, q < 218 → q ≠ 217 → cellV E x m h o1 q = cellV E x m h o q := by
  intro q h1 hq; unfold cellV cellF
  by_cases a : q < 211
  · simp [a]
  · rcases (by omega : q = 211 ∨ q = 212 ∨ q = 213 ∨ q = 214 ∨ q = 215 ∨ q = 216) with e | e | e | e | e | e <;> subst e <;> rfl
theorem IsB.l8 {b : Nat} (h : IsB b) {j : Nat} (hj : j < 26) : b + j < 218 := Nat.lt_trans (h.lt hj) (by decide)
theorem IsB.l0 {b : Nat} (h : IsB b) : b < 218 := Nat.lt_trans h.lt0 (by decide)
theorem oif {c : Prop} [Decidable c] {α : Type} {a r : α} (h : (if c then some a else none) = some r) : c ∧ some a = some r := by
  by_cases hc : c
  · rw [if_pos hc] at h; exact ⟨hc, h⟩
  · rw [if_neg hc] at h; cases h
def dok (x : UInt64) : Option UInt64 := if x &&& 0x7fffffffffffffff ≤ 0x7ff0000000000000 then some x else none
theorem dok_some {x y : UInt64} (h : dok x = some y) : vf_n64 x ∧ x = y := by
  unfold dok at h
  split at h
  · rename_i g; exact ⟨g, Option.some.inj h⟩
  · cases h
section XK
variable {p : Program} {l : Launch} {e : Env} {R : Room} {s : State} {mi : MethodId} {args : Array Value} {below : List Frame} {meth : Method} {c : Code} {H : Heap} {locs : List Loc} {cells slots : Nat} {Q : State → Prop}
variable {cc : ByteArray} {pc : Nat} {ls : Array Slot} {rest : List Value} {E : TE} {x m : XS} {h o : Int64}
theorem Wd.rec (hK : Ks E s) (hW : Wd E x m h o H) {k : Nat} (hk : k < 218) {ci : Nat} {fs : List Value} (hc : cellV E x m h o k = .inr (ci, fs)) {C : String} {T : u_T} {N : Nat} (hcl : vwCl[ci]? = some (C, T, N)) : ∃ cell : Cell, H[eh E + k]? = some cell ∧ cell.vm.isStatics = false ∧ s.vm.findClass C = some cell.cls :=
  va_recv hK.1 (hW.at hk hc) (ci := ci) (q0 := 0) hcl rfl
theorem r_get (hx : p.tables.exec = Jvm.exec) (hb : c.code = cc) (hB : ∀ w ∈ BG, w.before args s = true) (hK : Ks E s) {own C : String} {T : u_T} {N ci index : Nat} (hin : ∀ w ∈ u_ws C T N, w ∈ BG) (hown : s.vm.findClass own = some mi.cls) (hW : Wd E x m h o H) {k : Nat} (hk : k < 218) {fs : List Value} (hc : cellV E x m h o k = .inr (ci, fs)) (hcl : vwCl[ci]? = some (C, T, N)) (j : Nat) (hj : j < N) (hT : (T j).1 = C) (hlink : Cond.fieldLink own index C (T j).2.1 (T j).2.2.1 ∈ BG) {v : Value} (hv : fs[j]? = some v) (hdg : decode cc pc = .ok (.getfield index, 3))
    (kk : W p l e R s mi args below meth c H locs cells slots Q (F0 mi (pc + 3) ls (v :: rest))) : W p l e R s mi args below meth c H locs cells slots Q (F0 mi pc ls (.ref (eh E + k) :: rest)) :=
  va_get (own := own) (ref := C) (ci := ci) (ws := [(eh E + k, .inr (ci, fs))]) (C := C) (T := T) (N := N) hx hb hB hin hown hK.1 (hW.at hk hc) 0 rfl hcl j hj (hB _ hlink) (fun _ h9 => by rw [hT] at h9; exact h9) hv hdg kk
theorem r_getN (hx : p.tables.exec = Jvm.exec) (hb : c.code = cc) (hB : ∀ w ∈ BG, w.before args s = true) (hK : Ks E s) {own C host : String} {T : u_T} {N ci index : Nat} (hin : ∀ w ∈ u_ws C T N, w ∈ BG) (hown : s.vm.findClass own = some mi.cls) (hW : Wd E x m h o H) {k : Nat} (hk : k < 218) {fs : List Value} (hc : cellV E x m h o k = .inr (ci, fs)) (hcl : vwCl[ci]? = some (C, T, N)) (j : Nat) (hj : j < N) (hT : (T j).1 = C) (hlink : Cond.fieldLinkNest own index C (T j).2.1 (T j).2.2.1 host ∈ NW) {v : Value} (hv : fs[j]? = some v) (hdg : decode cc pc = .ok (.getfield index, 3))
    (kk : W p l e R s mi args below meth c H locs cells slots Q (F0 mi (pc + 3) ls (v :: rest))) : W p l e R s mi args below meth c H locs cells slots Q (F0 mi pc ls (.ref (eh E + k) :: rest)) :=
  va_getN (own := own) (ref := C) (ci := ci) (host := host) (ws := [(eh E + k, .inr (ci, fs))]) (C := C) (T := T) (N := N) hx hb hB hin hown hK.1 (hW.at hk hc) 0 rfl hcl j hj (va_Nw.use rfl (hK.nw hlink)) (fun _ h9 => by rw [hT] at h9; exact h9) hv hdg kk
theorem r_put (hx : p.tables.exec = Jvm.exec) (hb : c.code = cc) (hB : ∀ w ∈ BG, w.before args s = true) (hK : Ks E s) {own C : String} {T : u_T} {N ci index : Nat} (hin : ∀ w ∈ u_ws C T N, w ∈ BG) (ty0 : Nat → FieldType) (hty : ∀ k, k < N → parseFieldDescriptor (T k).2.2.1 = some (ty0 k)) (hnm : ∀ a, a < N → ∀ b, b < N → a ≠ b → (T a).2.1 ≠ (T b).2.1) (hown : s.vm.findClass own = some mi.cls) (hW : Wd E x m h o H) (hS : va_S (Ah E) s.heap H locs) {k : Nat} (hk : k < 218) {fs : List Value} (hc : cellV E x m h o k = .inr (ci, fs)) (hcl : vwCl[ci]? = some (C, T, N)) (j : Nat) (hj : j < N) (hT : (T j).1 = C) (hfin : (T j).2.2.2 = false) (hlink : Cond.fieldLink own index C (T j).2.1 (T j).2.2.1 ∈ BG) {ty : FieldType} {v : Value} (hd : parseFieldDescriptor (T j).2.2.1 = some ty) (hn : narrow ty v = v) (hfit : fits ty v = true) (hl : j < fs.length)
    {x1 m1 : XS} {h1 o1 : Int64} (hc1 : cellV E x1 m1 h1 o1 k = .inr (ci, fs.set j v)) (hs : ∀ q, q < 218 → q ≠ k → cellV E x1 m1 h1 o1 q = cellV E x m h o q) (hdg : decode cc pc = .ok (.putfield index, 3))
    (kk : ∀ (H1 : Heap) (locs1 : List Loc), Wd E x1 m1 h1 o1 H1 → va_S (Ah E) s.heap H1 locs1 → W p l e R s mi args below meth c H1 locs1 cells slots Q (F0 mi (pc + 3) ls rest)) : W p l e R s mi args below meth c H locs cells slots Q (F0 mi pc ls (v :: .ref (eh E + k) :: rest)) := by
  have hap := va_apart (own := own) hB hin ty0 hty hnm hK.1 hcl
  have he : [(eh E + k, (.inr (ci, fs) : va_E))][0]? = some (eh E + k, .inr (ci, fs)) := rfl
  obtain ⟨r, h2, cell, q1, q2, q3, q4⟩ := hW.at hk hc 0 _ he
  have hr : r = (C, T, N) := Option.some.inj (h2.symm.trans hcl)
  subst hr
  obtain ⟨hSl, hfc, kC, hkC, hkind⟩ := hK.1.1 ci _ hcl
  obtain ⟨cf, kf, fi, f, hi, hsl⟩ := hSl j hj
  have hlay := hB _ (hin _ (u_in_lay hj))
  unfold u_lay at hlay
  rw [if_neg (by rw [hfin]; decide)] at hlay
  have hst := (u_facts hfc hkC (u_lays hB hin hj) hi).1
  have h6 := u_store hfc hkC hkind hlay hi hd hn hfit
  refine W.putK hx hb (f := f) ⟨hown, hB _ hlink, ⟨_, _, _, by rw [← hT]; exact hi⟩, hst⟩ (by rw [q2]; exact h6) q1 q3 (by rw [hsl]; exact k2_hasslot (q4 j hj)) rfl rfl hdg fun H' e1 e2 e3 => ?_
  rw [hsl] at e1 ⊢
  exact kk H' _ (hW.upd hk hc1 ⟨_, hcl, t_OB.to (V := updV (vp_V fs) j v) ⟨_, e1, q2, q3, t_set q4 hap hj v⟩ (fun j _ => vp_updV_set hl v j)⟩ e2 e3 hs) (hS.put e2 e3 (Nat.le_add_right _ _))
theorem r_iald (hx : p.tables.exec = Jvm.exec) (hb : c.code = cc) (hK : Ks E s) (hW : Wd E x m h o H) {k n : Nat} (hk : k < 218) {f : Nat → Int32} (hc : cellV E x m h o k = ar E n f) {i v : Int32} (hv : aget n f i = some v) (hdg : decode cc pc = .ok (.iaload, 1))
    (kk : W p l e R s mi args below meth c H locs cells slots Q (F0 mi (pc + 1) ls (.int v :: rest))) : W p l e R s mi args below meth c H locs cells slots Q (F0 mi pc ls (.int i :: .ref (eh E + k) :: rest)) := by
  obtain ⟨hin, rfl⟩ := aget_some hv
  exact va_iald (D := eD E) (cl := vwCl) (tys := tyE E) (ws := [(eh E + k, ar E n f)]) hx hb hK.1 (hW.at hk hc) 0 0 rfl rfl hin hdg kk
theorem r_alen (hx : p.tables.exec = Jvm.exec) (hb : c.code = cc) (hK : Ks E s) (hW : Wd E x m h o H) {k n : Nat} (hk : k < 218) {f : Nat → Int32} (hc : cellV E x m h o k = ar E n f) {v : Int32} (hv : Int32.ofNat n = v) (hdg : decode cc pc = .ok (.arraylength, 1))
    (kk : W p l e R s mi args below meth c H locs cells slots Q (F0 mi (pc + 1) ls (.int v :: rest))) : W p l e R s mi args below meth c H locs cells slots Q (F0 mi pc ls (.ref (eh E + k) :: rest)) :=
  va_alen (D := eD E) (cl := vwCl) (tys := tyE E) (ws := [(eh E + k, ar E n f)]) (x := (n, .inl f)) hx hb hK.1 (hW.at hk hc) 0 0 rfl rfl hv hdg kk
theorem r_iastG (hx : p.tables.exec = Jvm.exec) (hb : c.code = cc) (hK : Ks E s) (hW : Wd E x m h o H) (hS : va_S (Ah E) s.heap H locs) {k n : Nat} (hk : k < 218) {f : Nat → Int32} (hc : cellV E x m h o k = ar E n f) {i v : Int32} (hin : vp_in i n)
    {x1 m1 : XS} {h1 o1 : Int64} (hc1 : cellV E x1 m1 h1 o1 k = ar E n (upd f i.toNatClampNeg v)) (hs : ∀ q, q < 218 → q ≠ k → cellV E x1 m1 h1 o1 q = cellV E x m h o q) (hdg : decode cc pc = .ok (.iastore, 1))
    (kk : ∀ (H1 : Heap) (locs1 : List Loc), Wd E x1 m1 h1 o1 H1 → va_S (Ah E) s.heap H1 locs1 → W p l e R s mi args below meth c H1 locs1 cells slots Q (F0 mi (pc + 1) ls rest)) : W p l e R s mi args below meth c H locs cells slots Q (F0 mi pc ls (.int v :: .int i :: .ref (eh E + k) :: rest)) := by
  have hP := hW.at hk hc
  have ht : (tyE E)[0]? = some (eI E, FieldType.int) := rfl
  refine W.iast hx hb (hP 0 _ rfl) ((hK.1.2 0 _ ht).1 n (fun j => .int (f j))) (fun q => by cases q) (by show ¬ (i < 0 ∨ (arrV _ _ _).slots.size ≤ _); rw [arrV_size]; exact hin) rfl rfl hdg fun H1 e z oq => ?_
  refine kk H1 _ (hW.upd hk hc1 ?_ z oq hs) (hS.put z oq (Nat.le_add_right _ _))
  show H1[eh E + k]? = some (vp_cell _ _)
  rw [e]
  rw [vp_cell_i, vp_cell_i, arrV_store]
  congr 2
  funext q
  by_cases hq : q = i.toNatClampNeg
  · subst hq
    simp [updV, upd]
  · simp [updV, upd, hq]
theorem r_iastX (hx : p.tables.exec = Jvm.exec) (hb : c.code = cc) (hK : Ks E s) (hW : Wd E x m h o H) (hS : va_S (Ah E) s.heap H locs) {k n : Nat} (hk : k < 211) (hc : ∀ x : XS, cellV E x m h o k = ar E n (x k)) {i v : Int32} {x1 : XS} (hv : aset x k n i v = some x1) (hdg : decode cc pc = .ok (.iastore, 1))
    (kk : ∀ (H1 : Heap) (locs1 : List Loc), Wd E x1 m h o H1 → va_S (Ah E) s.heap H1 locs1 → W p l e R s mi args below meth c H1 locs1 cells slots Q (F0 mi (pc + 1) ls rest)) : W p l e R s mi args below meth c H locs cells slots Q (F0 mi pc ls (.int v :: .int i :: .ref (eh E + k) :: rest)) := by
  obtain ⟨hin, rfl⟩ := aset_some hv
  exact r_iastG hx hb hK hW hS (by omega) (hc x) hin (by rw [hc, ux_eq]) cellV_ux hdg kk
theorem r_iastM (hx : p.tables.exec = Jvm.exec) (hb : c.code = cc) (hK : Ks E s) (hW : Wd E x m h o H) (hS : va_S (Ah E) s.heap H locs) {k n : Nat} (hk : k < 6) (hc : ∀ m : XS, cellV E x m h o (211 + k) = ar E n (m k)) {i v : Int32} {m1 : XS} (hv : aset m k n i v = some m1) (hdg : decode cc pc = .ok (.iastore, 1))
    (kk : ∀ (H1 : Heap) (locs1 : List Loc), Wd E x m1 h o H1 → va_S (Ah E) s.heap H1 locs1 → W p l e R s mi args below meth c H1 locs1 cells slots Q (F0 mi (pc + 1) ls rest)) : W p l e R s mi args below meth c H locs cells slots Q (F0 mi pc ls (.int v :: .int i :: .ref (eh E + (211 + k)) :: rest)) := by
  obtain ⟨hin, rfl⟩ := aset_some hv
  exact r_iastG hx hb hK hW hS (by omega) (hc m) hin (by rw [hc, ux_eq]) cellV_um hdg kk
/-! ===== contracts ===== -/
def QG (E : TE) (W1 : Heap → Prop) (r : Option Value) : Array Value → State → Outcome → State → Prop := fun _ st oc t => oc = .returned r ∧ W1 t.heap ∧ va_F (Ah E) st t
def MG (l : Launch) (E : TE) (y : MethodName) (b : ByteArray) (n : Nat) (ret : Option FieldType) (d : Nat) (As : List Value) (W0 W1 : Heap → Prop) (r : Option Value) : Prop :=
  Met l y (wsM y b n ret) (rmH d) (va_Pc As (fun U => Ks E U ∧ W0 U.heap)) (QG E W1 r) 0 0 (Ah E)
def EQ (E : TE) (below : List Frame) (args : Array Value) (s : State) (W1 : Heap → Prop) (r : Option Value) : State → Prop := MQ below (QG E W1 r) args s 0 0 (Ah E)
theorem m_in {y : MethodName} {b : ByteArray} {n : Nat} {ret : Option FieldType} {d : Nat} {As : List Value} {W0 W1 : Heap → Prop} {r : Option Value} (hy : plainName y.cls = true) (hA : (lg_sl As).length ≤ n)
    (body : ∀ (p : Program) (e : Env) (s : State) (mi : MethodId) (args : Array Value) (below : List Frame) (meth : Method) (c : Code) (H : Heap) (ls : Array Slot), p.tables.exec = Jvm.exec → c.code = b → meth.sig.returnType = ret → meth.locks = false → c.maxLocals = n → s.vm.findClass y.cls = some mi.cls → (∀ w ∈ BG, w.before args s = true) → Ks E s → W0 H → va_S (Ah E) s.heap H [] → lv_has ls n (lv_args 0 As) →
      W p l e (rmH d) s mi args below meth c H [] 0 0 (EQ E below args s W1 r) (F0 mi 0 ls [])) : MG l E y b n ret d As W0 W1 r := by
  refine Met.ofW (cc := b) (maxL := n) (ret := ret) hy rfl ?_
  intro p e s mi args below meth c s₁ B hml hv
  obtain ⟨rfl, hK, hW⟩ := hv
  have hl := lv_entry As (n := n) hA
  rw [lg_entry_eq]
  exact body p e s mi _ below meth c s.heap _ B.exec B.bytes B.returns B.notSynchronized hml (findClass_of_methodNamed B.named) (fun w hw => atoms_spec (ws := wsM y b n ret) B.pre w (List.mem_cons_of_mem _ hw)) hK hW va_S.rf hl
theorem e_i {W1 : Heap → Prop} {v : Int32} (hx : p.tables.exec = Jvm.exec) (hb : c.code = cc) (hr : meth.sig.returnType = some .int) (hlocks : meth.locks = false) (hW : W1 H) (hS : va_S (Ah E) s.heap H locs) (hdg : decode cc pc = .ok (.ireturn, 1)) : W p l e R s mi args below meth c H locs 0 0 (EQ E below args s W1 (some (.int v))) (F0 mi pc ls [.int v]) :=
  W.iret hx hb hr (fun t ht hW9 => ⟨rfl, by rw [ht]; exact hW, hS.F ht⟩) hS.2.2 hdg hlocks
theorem e_z {W1 : Heap → Prop} {v : Int32} (hx : p.tables.exec = Jvm.exec) (hb : c.code = cc) (hr : meth.sig.returnType = some .boolean) (hlocks : meth.locks = false) (hv : v = 0 ∨ v = 1) (hW : W1 H) (hS : va_S (Ah E) s.heap H locs) (hdg : decode cc pc = .ok (.ireturn, 1)) : W p l e R s mi args below meth c H locs 0 0 (EQ E below args s W1 (some (.int v))) (F0 mi pc ls [.int v]) :=
  W.zret hx hb hr (by rcases hv with rfl | rfl <;> rfl) (fun t ht hW9 => ⟨rfl, by rw [ht]; exact hW, hS.F ht⟩) hS.2.2 hdg hlocks
theorem e_l {W1 : Heap → Prop} {v : Int64} (hx : p.tables.exec = Jvm.exec) (hb : c.code = cc) (hr : meth.sig.returnType = some .long) (hlocks : meth.locks = false) (hW : W1 H) (hS : va_S (Ah E) s.heap H locs) (hdg : decode cc pc = .ok (.lreturn, 1)) : W p l e R s mi args below meth c H locs 0 0 (EQ E below args s W1 (some (.long v))) (F0 mi pc ls [.long v]) :=
  W.lret hx hb hr (fun t ht hW9 => ⟨rfl, by rw [ht]; exact hW, hS.F ht⟩) hS.2.2 hdg hlocks
theorem e_d {W1 : Heap → Prop} {v : UInt64} (hx : p.tables.exec = Jvm.exec) (hb : c.code = cc) (hr : meth.sig.returnType = some .double) (hlocks : meth.locks = false) (hW : W1 H) (hS : va_S (Ah E) s.heap H locs) (hdg : decode cc pc = .ok (.dreturn, 1)) : W p l e R s mi args below meth c H locs 0 0 (EQ E below args s W1 (some (.double v))) (F0 mi pc ls [.double v]) :=
  W.dret hx hb hr (fun t ht hW9 => ⟨rfl, by rw [ht]; exact hW, hS.F ht⟩) hS.2.2 hdg hlocks
theorem e_v {W1 : Heap → Prop} (hx : p.tables.exec = Jvm.exec) (hb : c.code = cc) (hr : meth.sig.returnType = none) (hlocks : meth.locks = false) (hW : W1 H) (hS : va_S (Ah E) s.heap H locs) (hdg : decode cc pc = .ok (.return_, 1)) : W p l e R s mi args below meth c H locs 0 0 (EQ E below args s W1 none) (F0 mi pc ls []) :=
  W.vret hx hb hr (fun t ht hW9 => ⟨rfl, by rw [ht]; exact hW, hS.F ht⟩) hS.2.2 hdg hlocks
theorem e_a {W1 : Heap → Prop} {k : Nat} {C : String} (hx : p.tables.exec = Jvm.exec) (hb : c.code = cc) (hr : meth.sig.returnType = some (.object C)) (hlocks : meth.locks = false) (hW : W1 H) (hS : va_S (Ah E) s.heap H locs) (hdg : decode cc pc = .ok (.areturn, 1)) : W p l e R s mi args below meth c H locs 0 0 (EQ E below args s W1 (some (.ref k))) (F0 mi pc ls [.ref k]) :=
  W.aret hx hb hr (Or.inl ⟨_, rfl⟩) (Or.inr ⟨_, rfl⟩) (fun t ht hW9 => ⟨rfl, by rw [ht]; exact hW, hS.F ht⟩) hS.2.2 hdg hlocks
/-! ===== calls ===== -/
theorem pc_blind {As : List Value} {W0 : Heap → Prop} : FrameBlind (va_Pc As (fun U => Ks E U ∧ W0 U.heap)) := fun _ _ _ _ h => ⟨h.1, h.2.1.same rfl rfl, h.2.2⟩
theorem pc_go {As : List Value} {W0 : Heap → Prop} (hK : Ks E s) (hS : va_S (Ah E) s.heap H locs) (hW : W0 H) : ∀ U : State, U.heap = H → s.WarmedH U.vm → va_Pc As (fun U => Ks E U ∧ W0 U.heap) As.toArray U := fun U hU hw => ⟨rfl, hK.go hw hS hU, by rw [hU]; exact hW⟩
theorem c_run {W1 : Heap → Prop} {r : Option Value} {a : Array Value} {st0 st1 : List Value} (hr : va_Run p l e R s mi args below meth c H locs cells slots 0 0 (F0 mi pc ls st0) rest (QG E W1 r a) (Ah E)) (hS : va_S (Ah E) s.heap H locs) (h1 : r.toList ++ rest = st1)
    (kk : ∀ (H1 : Heap) (locs1 : List Loc), W1 H1 → va_S (Ah E) s.heap H1 locs1 → W p l e R s mi args below meth c H1 locs1 cells slots Q (F0 mi (pc + 3) ls st1)) : W p l e R s mi args below meth c H locs cells slots Q (F0 mi pc ls st0) := by
  subst h1
  intro T hT X
  obtain ⟨v, st₀, t, T', L, h0, X', hL, e1, e2, ⟨hv, hw, hz, hk⟩, st⟩ := hr T hT X
  cases hv
  rw [h0] at hz hk
  obtain ⟨t2, a1, b1⟩ := kk T'.heap (locs ++ L) (by rw [e1]; exact hw)
    ⟨Nat.le_trans hS.1 (by rw [e1]; exact hz), fun q h1 h2 => by rw [e1, hk q (Nat.lt_of_lt_of_le h1 hS.1) h2]; exact hS.2.1 q h1 h2, fun q hq => by
      rcases List.mem_append.mp hq with h | h
      · exact hS.2.2 q h
      · exact hL q h⟩ T' rfl X'
  exact ⟨t2, st t2 a1, b1⟩
variable {y : MethodName} {b : ByteArray} {n nL d : Nat} {ret : Option FieldType} {As st0 st1 : List Value} {W0 W1 : Heap → Prop} {r : Option Value} {own C host : String} {index a k : Nat}
theorem c_S (hM : MG l E y b n ret d As W0 W1 r) (cw : CallB R s args own index y b n ret (wsM y b n ret) (rmH d) 0 0 k ∧ (Cond.static y).before args s = true) (hx : p.tables.exec = Jvm.exec) (hb : c.code = cc) (hml : c.maxLocals = nL) (hown : s.vm.findClass own = some mi.cls) (hB : ∀ w ∈ BG, w.before args s = true) (hK : Ks E s) (hW : W0 H) (hS : va_S (Ah E) s.heap H locs) (hc : cells ≤ R.cells ∧ slots ≤ R.slots) (hn : As.length = k) (hsize : ls.size = nL) (hst : st0 = As.reverse ++ rest) (hroom : (rest.map fun v => v.category).sum ≤ 8) (h1 : r.toList ++ rest = st1) (hdg : decode cc pc = .ok (.invokestatic index, 3))
    (kk : ∀ (H1 : Heap) (locs1 : List Loc), W1 H1 → va_S (Ah E) s.heap H1 locs1 → W p l e R s mi args below meth c H1 locs1 cells slots Q (F0 mi (pc + 3) ls st1)) : W p l e R s mi args below meth c H locs cells slots Q (F0 mi pc ls st0) :=
  c_run (va_runS (Ts := BG) ⟨hx, hb, hml, hown, hB⟩ hM cw ⟨pc_blind, pc_go hK hS hW⟩ rfl hn hsize hst (lv_room hroom) hdg hc) hS h1 kk
theorem c_SN (hM : MG l E y b n ret d As W0 W1 r) (cw : va_CN R s args own index y host b n ret (wsM y b n ret) (rmH d) 0 0 k ∧ (Cond.static y).before args s = true ∧ True) (hx : p.tables.exec = Jvm.exec) (hb : c.code = cc) (hml : c.maxLocals = nL) (hown : s.vm.findClass own = some mi.cls) (hB : ∀ w ∈ BG, w.before args s = true) (hK : Ks E s) (hW : W0 H) (hS : va_S (Ah E) s.heap H locs) (hc : cells ≤ R.cells ∧ slots ≤ R.slots) (hn : As.length = k) (hsize : ls.size = nL) (hst : st0 = As.reverse ++ rest) (hroom : (rest.map fun v => v.category).sum ≤ 8) (h1 : r.toList ++ rest = st1) (hdg : decode cc pc = .ok (.invokestatic index, 3))
    (kk : ∀ (H1 : Heap) (locs1 : List Loc), W1 H1 → va_S (Ah E) s.heap H1 locs1 → W p l e R s mi args below meth c H1 locs1 cells slots Q (F0 mi (pc + 3) ls st1)) : W p l e R s mi args below meth c H locs cells slots Q (F0 mi pc ls st0) :=
  c_run (va_runSN (Ts := BG) ⟨hx, hb, hml, hown, hB⟩ hM cw ⟨pc_blind, pc_go hK hS hW⟩ rfl hn hsize hst (lv_room hroom) hdg hc) hS h1 kk
theorem c_V (hM : MG l E y b n ret d (.ref a :: As) W0 W1 r) (cw : CallW R s args own C index y b n ret (wsM y b n ret) (rmH d) 0 0 k) (hrec : ∃ cell : Cell, H[a]? = some cell ∧ cell.vm.isStatics = false ∧ s.vm.findClass C = some cell.cls) (hx : p.tables.exec = Jvm.exec) (hb : c.code = cc) (hml : c.maxLocals = nL) (hown : s.vm.findClass own = some mi.cls) (hB : ∀ w ∈ BG, w.before args s = true) (hK : Ks E s) (hW : W0 H) (hS : va_S (Ah E) s.heap H locs) (hc : cells ≤ R.cells ∧ slots ≤ R.slots) (hn : As.length = k) (hsize : ls.size = nL) (hst : st0 = As.reverse ++ .ref a :: rest) (hroom : (rest.map fun v => v.category).sum ≤ 8) (h1 : r.toList ++ rest = st1) (hdg : decode cc pc = .ok (.invokevirtual index, 3))
    (kk : ∀ (H1 : Heap) (locs1 : List Loc), W1 H1 → va_S (Ah E) s.heap H1 locs1 → W p l e R s mi args below meth c H1 locs1 cells slots Q (F0 mi (pc + 3) ls st1)) : W p l e R s mi args below meth c H locs cells slots Q (F0 mi pc ls st0) :=
  c_run (va_runV (Ts := BG) ⟨hx, hb, hml, hown, hB⟩ hM cw ⟨pc_blind, hrec, pc_go hK hS hW⟩ rfl hn hsize hst (lv_room hroom) hdg hc) hS h1 kk
theorem k_S {R : Room} {d : Nat} (hB : ∀ w ∈ BG, w.before args s = true) (hcode : Cond.code y b n ret ∈ BG) (hini : Cond.initialized y.cls ∈ BG) (hl : Cond.methodLink own index y ∈ BG) (hst : Cond.static y ∈ BG) (hd : y.cls ≠ "java/lang/invoke/MethodHandle" ∧ y.cls ≠ "java/lang/invoke/VarHandle" ∧ (parseMethodDescriptor y.desc).map (fun d => d.parameters.length) = some k) (hR : (rmH d).frames + 1 ≤ R.frames ∧ 8 + (n + 11) + (rmH d).locals ≤ R.locals) :
    CallB R s args own index y b n ret (wsM y b n ret) (rmH d) 0 0 k ∧ (Cond.static y).before args s = true :=
  ⟨callB_of k hB (wsM_good hcode) rfl rfl rfl (hB _ hini) (hB _ hl) hd hR, hB _ hst⟩
theorem k_SN {R : Room} {d : Nat} (hB : ∀ w ∈ BG, w.before args s = true) (hK : Ks E s) (hcode : Cond.code y b n ret ∈ BG) (hini : Cond.initialized y.cls ∈ BG) (hl : Cond.methodLinkNest own index y host ∈ NW) (hst : Cond.static y ∈ BG) (hd : y.cls ≠ "java/lang/invoke/MethodHandle" ∧ y.cls ≠ "java/lang/invoke/VarHandle" ∧ (parseMethodDescriptor y.desc).map (fun d => d.parameters.length) = some k) (hR : (rmH d).frames + 1 ≤ R.frames ∧ 8 + (n + 11) + (rmH d).locals ≤ R.locals) :
    va_CN R s args own index y host b n ret (wsM y b n ret) (rmH d) 0 0 k ∧ (Cond.static y).before args s = true ∧ True :=
  ⟨va_cnB k hB (wsM_good hcode) rfl rfl rfl (hK.nw hl) (hB _ hini) hd hR, hB _ hst, trivial⟩
theorem k_V {R : Room} {d : Nat} (hB : ∀ w ∈ BG, w.before args s = true) (hcode : Cond.code y b n ret ∈ BG) (hini : Cond.initialized y.cls ∈ BG) (hl : Cond.methodLink own index y ∈ BG) (hin : Cond.instanceMethod y ∈ BG) (hsel : Cond.selects C y y ∈ BG) (hd : y.cls ≠ "java/lang/invoke/MethodHandle" ∧ y.cls ≠ "java/lang/invoke/VarHandle" ∧ (parseMethodDescriptor y.desc).map (fun d => d.parameters.length) = some k) (hR : (rmH d).frames + 1 ≤ R.frames ∧ 8 + (n + 11) + (rmH d).locals ≤ R.locals) :
    CallW R s args own C index y b n ret (wsM y b n ret) (rmH d) 0 0 k :=
  ⟨callB_of k hB (wsM_good hcode) rfl rfl rfl (hB _ hini) (hB _ hl) hd hR, hB _ hin, hB _ hsel⟩
theorem lv_nm {v x : Int32} (ev : v = x) (kk : W p l e R s mi args below meth c H locs cells slots Q (F0 mi pc ls (.int v :: rest))) : W p l e R s mi args below meth c H locs cells slots Q (F0 mi pc ls (.int x :: rest)) := by subst ev; exact kk
theorem lv_nmL {v x : Int64} (ev : v = x) (kk : W p l e R s mi args below meth c H locs cells slots Q (F0 mi pc ls (.long v :: rest))) : W p l e R s mi args below meth c H locs cells slots Q (F0 mi pc ls (.long x :: rest)) := by subst ev; exact kk
end XK
theorem ob {α β : Type} {a : α} {f : α → Option β} {r : β} (h : (some a).bind f = some r) : ∃ v, v = a ∧ f v = some r := ⟨a, rfl, h⟩
theorem ob2 {α β : Type} {a : Option α} {f : α → Option β} {r : β} (h : a.bind f = some r) : ∃ v, a = some v ∧ f v = some r := Option.bind_eq_some_iff.mp h
