theorem dX4_isKind_0 : decode cX4_isKind 0 = .ok (.iload_n 0, 1) := by decide +kernel
theorem dX4_isKind_1 : decode cX4_isKind 1 = .ok (.ifCond .lt 12, 3) := by decide +kernel
theorem dX4_isKind_4 : decode cX4_isKind 4 = .ok (.iload_n 0, 1) := by decide +kernel
theorem dX4_isKind_5 : decode cX4_isKind 5 = .ok (.iconst 4, 1) := by decide +kernel
theorem dX4_isKind_6 : decode cX4_isKind 6 = .ok (.if_icmp .ge 7, 3) := by decide +kernel
theorem dX4_isKind_9 : decode cX4_isKind 9 = .ok (.iconst 1, 1) := by decide +kernel
theorem dX4_isKind_10 : decode cX4_isKind 10 = .ok (.goto 4, 3) := by decide +kernel
theorem dX4_isKind_13 : decode cX4_isKind 13 = .ok (.iconst 0, 1) := by decide +kernel
theorem dX4_isKind_14 : decode cX4_isKind 14 = .ok (.ireturn, 1) := by decide +kernel
theorem dX4_isGroup_0 : decode cX4_isGroup 0 = .ok (.iload_n 0, 1) := by decide +kernel
theorem dX4_isGroup_1 : decode cX4_isGroup 1 = .ok (.ifCond .lt 12, 3) := by decide +kernel
theorem dX4_isGroup_4 : decode cX4_isGroup 4 = .ok (.iload_n 0, 1) := by decide +kernel
theorem dX4_isGroup_5 : decode cX4_isGroup 5 = .ok (.iconst 3, 1) := by decide +kernel
theorem dX4_isGroup_6 : decode cX4_isGroup 6 = .ok (.if_icmp .ge 7, 3) := by decide +kernel
theorem dX4_isGroup_9 : decode cX4_isGroup 9 = .ok (.iconst 1, 1) := by decide +kernel
theorem dX4_isGroup_10 : decode cX4_isGroup 10 = .ok (.goto 4, 3) := by decide +kernel
theorem dX4_isGroup_13 : decode cX4_isGroup 13 = .ok (.iconst 0, 1) := by decide +kernel
theorem dX4_isGroup_14 : decode cX4_isGroup 14 = .ok (.ireturn, 1) := by decide +kernel
theorem dX4_isWithin_0 : decode cX4_isWithin 0 = .ok (.iload_n 0, 1) := by decide +kernel
theorem dX4_isWithin_1 : decode cX4_isWithin 1 = .ok (.iload_n 1, 1) := by decide +kernel
theorem dX4_isWithin_2 : decode cX4_isWithin 2 = .ok (.if_icmp .lt 12, 3) := by decide +kernel
theorem dX4_isWithin_5 : decode cX4_isWithin 5 = .ok (.iload_n 0, 1) := by decide +kernel
theorem dX4_isWithin_6 : decode cX4_isWithin 6 = .ok (.iload_n 2, 1) := by decide +kernel
theorem dX4_isWithin_7 : decode cX4_isWithin 7 = .ok (.if_icmp .gt 7, 3) := by decide +kernel
theorem dX4_isWithin_10 : decode cX4_isWithin 10 = .ok (.iconst 1, 1) := by decide +kernel
theorem dX4_isWithin_11 : decode cX4_isWithin 11 = .ok (.goto 4, 3) := by decide +kernel
theorem dX4_isWithin_14 : decode cX4_isWithin 14 = .ok (.iconst 0, 1) := by decide +kernel
theorem dX4_isWithin_15 : decode cX4_isWithin 15 = .ok (.ireturn, 1) := by decide +kernel
theorem dX4_isSetting_0 : decode cX4_isSetting 0 = .ok (.iload_n 0, 1) := by decide +kernel
theorem dX4_isSetting_1 : decode cX4_isSetting 1 = .ok (.ifCond .lt 12, 3) := by decide +kernel
theorem dX4_isSetting_4 : decode cX4_isSetting 4 = .ok (.iload_n 0, 1) := by decide +kernel
theorem dX4_isSetting_5 : decode cX4_isSetting 5 = .ok (.iconst 3, 1) := by decide +kernel
theorem dX4_isSetting_6 : decode cX4_isSetting 6 = .ok (.if_icmp .ge 7, 3) := by decide +kernel
theorem dX4_isSetting_9 : decode cX4_isSetting 9 = .ok (.iconst 1, 1) := by decide +kernel
theorem dX4_isSetting_10 : decode cX4_isSetting 10 = .ok (.goto 4, 3) := by decide +kernel
theorem dX4_isSetting_13 : decode cX4_isSetting 13 = .ok (.iconst 0, 1) := by decide +kernel
theorem dX4_isSetting_14 : decode cX4_isSetting 14 = .ok (.ireturn, 1) := by decide +kernel
theorem dX4_isCustomer_0 : decode cX4_isCustomer 0 = .ok (.iload_n 0, 1) := by decide +kernel
theorem dX4_isCustomer_1 : decode cX4_isCustomer 1 = .ok (.ifCond .lt 13, 3) := by decide +kernel
theorem dX4_isCustomer_4 : decode cX4_isCustomer 4 = .ok (.iload_n 0, 1) := by decide +kernel
theorem dX4_isCustomer_5 : decode cX4_isCustomer 5 = .ok (.bipush 10, 2) := by decide +kernel
theorem dX4_isCustomer_7 : decode cX4_isCustomer 7 = .ok (.if_icmp .ge 7, 3) := by decide +kernel
theorem dX4_isCustomer_10 : decode cX4_isCustomer 10 = .ok (.iconst 1, 1) := by decide +kernel
theorem dX4_isCustomer_11 : decode cX4_isCustomer 11 = .ok (.goto 4, 3) := by decide +kernel
theorem dX4_isCustomer_14 : decode cX4_isCustomer 14 = .ok (.iconst 0, 1) := by decide +kernel
theorem dX4_isCustomer_15 : decode cX4_isCustomer 15 = .ok (.ireturn, 1) := by decide +kernel
theorem dX4_requireIndex_0 : decode cX4_requireIndex 0 = .ok (.iload_n 0, 1) := by decide +kernel
theorem dX4_requireIndex_1 : decode cX4_requireIndex 1 = .ok (.ifCond .ne 11, 3) := by decide +kernel
theorem dX4_requireIndex_4 : decode cX4_requireIndex 4 = .ok (.new 312, 3) := by decide +kernel
theorem dX4_requireIndex_7 : decode cX4_requireIndex 7 = .ok (.dup, 1) := by decide +kernel
theorem dX4_requireIndex_8 : decode cX4_requireIndex 8 = .ok (.invokespecial 314, 3) := by decide +kernel
theorem dX4_requireIndex_11 : decode cX4_requireIndex 11 = .ok (.athrow, 1) := by decide +kernel
theorem dX4_requireIndex_12 : decode cX4_requireIndex 12 = .ok (.return_, 1) := by decide +kernel
theorem dX4_requireArgument_0 : decode cX4_requireArgument 0 = .ok (.iload_n 0, 1) := by decide +kernel
theorem dX4_requireArgument_1 : decode cX4_requireArgument 1 = .ok (.ifCond .ne 11, 3) := by decide +kernel
theorem dX4_requireArgument_4 : decode cX4_requireArgument 4 = .ok (.new 315, 3) := by decide +kernel
theorem dX4_requireArgument_7 : decode cX4_requireArgument 7 = .ok (.dup, 1) := by decide +kernel
theorem dX4_requireArgument_8 : decode cX4_requireArgument 8 = .ok (.invokespecial 317, 3) := by decide +kernel
theorem dX4_requireArgument_11 : decode cX4_requireArgument 11 = .ok (.athrow, 1) := by decide +kernel
theorem dX4_requireArgument_12 : decode cX4_requireArgument 12 = .ok (.return_, 1) := by decide +kernel
theorem dX4_requireState_0 : decode cX4_requireState 0 = .ok (.iload_n 0, 1) := by decide +kernel
theorem dX4_requireState_1 : decode cX4_requireState 1 = .ok (.ifCond .ne 11, 3) := by decide +kernel
theorem dX4_requireState_4 : decode cX4_requireState 4 = .ok (.new 318, 3) := by decide +kernel
theorem dX4_requireState_7 : decode cX4_requireState 7 = .ok (.dup, 1) := by decide +kernel
theorem dX4_requireState_8 : decode cX4_requireState 8 = .ok (.invokespecial 320, 3) := by decide +kernel
theorem dX4_requireState_11 : decode cX4_requireState 11 = .ok (.athrow, 1) := by decide +kernel
theorem dX4_requireState_12 : decode cX4_requireState 12 = .ok (.return_, 1) := by decide +kernel
theorem dJD_isNaN_0 : decode cJxe99ae_isNaN_b9ae7 0 = .ok (.dload_n 0, 1) := by decide +kernel
theorem dJD_isNaN_1 : decode cJxe99ae_isNaN_b9ae7 1 = .ok (.dload_n 0, 1) := by decide +kernel
theorem dJD_isNaN_2 : decode cJxe99ae_isNaN_b9ae7 2 = .ok (.dcmp .l, 1) := by decide +kernel
theorem dJD_isNaN_3 : decode cJxe99ae_isNaN_b9ae7 3 = .ok (.ifCond .eq 7, 3) := by decide +kernel
theorem dJD_isNaN_6 : decode cJxe99ae_isNaN_b9ae7 6 = .ok (.iconst 1, 1) := by decide +kernel
theorem dJD_isNaN_7 : decode cJxe99ae_isNaN_b9ae7 7 = .ok (.goto 4, 3) := by decide +kernel
theorem dJD_isNaN_10 : decode cJxe99ae_isNaN_b9ae7 10 = .ok (.iconst 0, 1) := by decide +kernel
theorem dJD_isNaN_11 : decode cJxe99ae_isNaN_b9ae7 11 = .ok (.ireturn, 1) := by decide +kernel
theorem dJD_doubleToLongBits_0 : decode cJxe99ae_doubleToLongBits_ccdee 0 = .ok (.dload_n 0, 1) := by decide +kernel
theorem dJD_doubleToLongBits_1 : decode cJxe99ae_doubleToLongBits_ccdee 1 = .ok (.invokestatic 122, 3) := by decide +kernel
theorem dJD_doubleToLongBits_4 : decode cJxe99ae_doubleToLongBits_ccdee 4 = .ok (.ifCond .ne 8, 3) := by decide +kernel
theorem dJD_doubleToLongBits_7 : decode cJxe99ae_doubleToLongBits_ccdee 7 = .ok (.dload_n 0, 1) := by decide +kernel
theorem dJD_doubleToLongBits_8 : decode cJxe99ae_doubleToLongBits_ccdee 8 = .ok (.invokestatic 134, 3) := by decide +kernel
theorem dJD_doubleToLongBits_11 : decode cJxe99ae_doubleToLongBits_ccdee 11 = .ok (.lreturn, 1) := by decide +kernel
theorem dJD_doubleToLongBits_12 : decode cJxe99ae_doubleToLongBits_ccdee 12 = .ok (.ldc2_w 137, 3) := by decide +kernel
theorem dJD_doubleToLongBits_15 : decode cJxe99ae_doubleToLongBits_ccdee 15 = .ok (.lreturn, 1) := by decide +kernel
theorem dX4_copyAll_0 : decode cX4_copyAll 0 = .ok (.aload_n 0, 1) := by decide +kernel
theorem dX4_copyAll_1 : decode cX4_copyAll 1 = .ok (.iconst 0, 1) := by decide +kernel
theorem dX4_copyAll_2 : decode cX4_copyAll 2 = .ok (.aload_n 1, 1) := by decide +kernel
theorem dX4_copyAll_3 : decode cX4_copyAll 3 = .ok (.iconst 0, 1) := by decide +kernel
theorem dX4_copyAll_4 : decode cX4_copyAll 4 = .ok (.aload_n 0, 1) := by decide +kernel
theorem dX4_copyAll_5 : decode cX4_copyAll 5 = .ok (.arraylength, 1) := by decide +kernel
theorem dX4_copyAll_6 : decode cX4_copyAll 6 = .ok (.aload_n 1, 1) := by decide +kernel
theorem dX4_copyAll_7 : decode cX4_copyAll 7 = .ok (.arraylength, 1) := by decide +kernel
theorem dX4_copyAll_8 : decode cX4_copyAll 8 = .ok (.invokestatic 327, 3) := by decide +kernel
theorem dX4_copyAll_11 : decode cX4_copyAll 11 = .ok (.invokestatic 332, 3) := by decide +kernel
theorem dX4_copyAll_14 : decode cX4_copyAll 14 = .ok (.return_, 1) := by decide +kernel
theorem dX4_savedAt_0 : decode cX4_savedAt 0 = .ok (.iload_n 1, 1) := by decide +kernel
theorem dX4_savedAt_1 : decode cX4_savedAt 1 = .ok (.iconst 0, 1) := by decide +kernel
theorem dX4_savedAt_2 : decode cX4_savedAt 2 = .ok (.iconst 5, 1) := by decide +kernel
theorem dX4_savedAt_3 : decode cX4_savedAt 3 = .ok (.invokestatic 35, 3) := by decide +kernel
theorem dX4_savedAt_6 : decode cX4_savedAt 6 = .ok (.ifCond .eq 12, 3) := by decide +kernel
theorem dX4_savedAt_9 : decode cX4_savedAt 9 = .ok (.aload_n 0, 1) := by decide +kernel
theorem dX4_savedAt_10 : decode cX4_savedAt 10 = .ok (.getfield 19, 3) := by decide +kernel
theorem dX4_savedAt_13 : decode cX4_savedAt 13 = .ok (.iload_n 1, 1) := by decide +kernel
theorem dX4_savedAt_14 : decode cX4_savedAt 14 = .ok (.aaload, 1) := by decide +kernel
theorem dX4_savedAt_15 : decode cX4_savedAt 15 = .ok (.goto 4, 3) := by decide +kernel
theorem dX4_savedAt_18 : decode cX4_savedAt 18 = .ok (.aconst_null, 1) := by decide +kernel
theorem dX4_savedAt_19 : decode cX4_savedAt 19 = .ok (.areturn, 1) := by decide +kernel
def f_X4_isWithin (a0 : Int32) (a1 : Int32) (a2 : Int32) : Option (Int32) :=
    if (a0 < a1 : Prop) then
      some 0
    else
      (if (a2 < a0 : Prop) then
        some 0
      else
        some 1)
set_option maxRecDepth 100000 in
set_option maxHeartbeats 4000000 in
theorem p_X4_isWithin (l : Launch) (E : TE) (x m : XS) (g o : Int64) {a0 : Int32} {a1 : Int32} {a2 : Int32} {r : Int32} (hf : f_X4_isWithin a0 a1 a2 = some r) : MG l E yX4_isWithin cX4_isWithin 3 (some .boolean) 0 [.int a0, .int a1, .int a2] (Wd E x m g o) (Wd E x m g o) (some (.int r)) := by
  unfold f_X4_isWithin at hf
  refine m_in (by decide) (Nat.le_of_ble_eq_true rfl) ?_
  intro p e s mi args below meth c H ls hx hb hr hlk hml hown hB hK hW hS hl
  have hl : lv_has ls 3 [(0, .int a0), (1, .int a1), (2, .int a2)] := hl
  refine lv_iload_n hx hb dX4_isWithin_0 rfl (lv_at hl 0 rfl) ?_
  refine lv_iload_n hx hb dX4_isWithin_1 rfl (lv_at hl 1 rfl) ?_
  refine lv_icmp_lt (tgt := 14) hx hb dX4_isWithin_2 (by decide) (fun c2 => ?_) (fun c2 => ?_)
  · rw [if_pos c2] at hf
    refine lv_iconst (v := 0) hx hb dX4_isWithin_14 (by decide) ?_
    cases hf
    exact e_z hx hb hr hlk (Or.inl rfl) hW hS dX4_isWithin_15
  · rw [if_neg c2] at hf
    refine lv_iload_n hx hb dX4_isWithin_5 rfl (lv_at hl 0 rfl) ?_
    refine lv_iload_n hx hb dX4_isWithin_6 rfl (lv_at hl 2 rfl) ?_
    refine lv_icmp_gt (tgt := 14) hx hb dX4_isWithin_7 (by decide) (fun c7 => ?_) (fun c7 => ?_)
    · rw [if_pos c7] at hf
      refine lv_iconst (v := 0) hx hb dX4_isWithin_14 (by decide) ?_
      cases hf
      exact e_z hx hb hr hlk (Or.inl rfl) hW hS dX4_isWithin_15
    · rw [if_neg c7] at hf
      refine lv_iconst (v := 1) hx hb dX4_isWithin_10 (by decide) ?_
      refine lv_goto (tgt := 15) hx hb dX4_isWithin_11 (by decide) ?_
      cases hf
      exact e_z hx hb hr hlk (Or.inr rfl) hW hS dX4_isWithin_15
def cpA (x : XS) (k1 k2 N : Nat) : XS := fun k => if k = k2 then va_cpy (x k1) (x k2) 0 0 N else x k
def wl (E : TE) (x m : XS) (g o : Int64) : va_W := (List.range 218).map (fun k => (eh E + k, cellV E x m g o k))
theorem wl_get {E : TE} {x m : XS} {g o : Int64} {k : Nat} (hk : k < 218) {c : va_E} (hc : cellV E x m g o k = c) : (wl E x m g o)[k]? = some (eh E + k, c) := by
  unfold wl; rw [List.getElem?_map, List.getElem?_range hk]; simp [hc]
theorem wl_P {E : TE} {x m : XS} {g o : Int64} {H : Heap} (hW : Wd E x m g o H) : va_P (eD E) vwCl (wl E x m g o) H := by
  intro k q hq
  unfold wl at hq
  rw [List.getElem?_map] at hq
  by_cases hk : k < 218
  · rw [List.getElem?_range hk] at hq
    cases hq
    exact hW.2 k hk
  · rw [List.getElem?_eq_none (by simpa using hk)] at hq; cases hq
theorem wl_D {E : TE} {x m : XS} {g o : Int64} : va_D (Ah E) (wl E x m g o) := by
  have key : ∀ (k : Nat) (q : Nat × va_E), (wl E x m g o)[k]? = some q → q.1 = eh E + k := by
    intro k q hq
    unfold wl at hq
    rw [List.getElem?_map] at hq
    by_cases hk : k < 218
    · rw [List.getElem?_range hk] at hq
      cases hq
      rfl
    · rw [List.getElem?_eq_none (by simpa using hk)] at hq; cases hq
  refine ⟨fun i j p q hi hj hpq => ?_, fun k q hk => ?_⟩
  · have h1 := key i p hi; have h2 := key j q hj; omega
  · show eh E ≤ q.1
    have := key k q hk; omega
theorem wl_up {E : TE} {x m x1 m1 : XS} {g o g1 o1 : Int64} {H1 : Heap} {k : Nat} (hk : k < 218) {c : va_E} (hP : va_P (eD E) vwCl ((wl E x m g o).set k (eh E + k, c)) H1) (hc : cellV E x1 m1 g1 o1 k = c) (hs : ∀ q, q < 218 → q ≠ k → cellV E x1 m1 g1 o1 q = cellV E x m g o q) : Wd E x1 m1 g1 o1 H1 := by
  have key : ∀ q, q < 218 → va_at (eD E) vwCl (eh E + q, cellV E x1 m1 g1 o1 q) H1 := by
    intro q hq
    by_cases e : q = k
    · subst e
      rw [hc]
      refine hP q _ ?_
      rw [List.getElem?_set_self (by unfold wl; simp; exact hk)]
    · rw [hs q hq e]
      refine hP q _ ?_
      rw [List.getElem?_set_ne (Ne.symm e)]
      exact wl_get hq rfl
  exact ⟨by have := (key 217 (by decide)).lt; show eh E + 218 ≤ H1.size; exact this, key⟩
theorem cellV_cp {E : TE} {x m : XS} {g o : Int64} {k1 k2 N : Nat} : ∀ q, q < 218 → q ≠ k2 → cellV E (cpA x k1 k2 N) m g o q = cellV E x m g o q := by
  intro q _ hq; unfold cellV rowV
  rw [show cpA x k1 k2 N q = x q from if_neg hq]
section BS
variable {p : Program} {l : Launch} {e : Env} {R : Room} {s : State} {mi : MethodId} {args : Array Value} {below : List Frame} {meth : Method} {c : Code} {H : Heap} {locs : List Loc} {cells slots : Nat} {Q : State → Prop}
variable {cc : ByteArray} {pc : Nat} {ls : Array Slot} {rest : List Value} {E : TE} {x m : XS} {g o : Int64}
theorem r_sald (hx : p.tables.exec = Jvm.exec) (hb : c.code = cc) {a : Nat} {f : Nat → Int32} (hT : va_T .int a 3 (fun j => .int (f j)) (Ah E) s s.heap) (hS : va_S (Ah E) s.heap H locs) {i v : Int32} (hv : aget 3 f i = some v) (hdg : decode cc pc = .ok (.iaload, 1))
    (kk : W p l e R s mi args below meth c H locs cells slots Q (F0 mi (pc + 1) ls (.int v :: rest))) : W p l e R s mi args below meth c H locs cells slots Q (F0 mi pc ls (.int i :: .ref a :: rest)) := by
  obtain ⟨hin, rfl⟩ := aget_some hv
  exact va_ti hx hb hT hS hin rfl hdg kk
theorem r_copy (hx : p.tables.exec = Jvm.exec) (hb : c.code = cc) (hml : c.maxLocals = ls.size) (hown : s.vm.findClass RX4 = some mi.cls) (hB : ∀ w ∈ BG, w.before args s = true) (hK : Ks E s) (hW : Wd E x m g o H) (hS : va_S (Ah E) s.heap H locs) {k1 k2 N : Nat} (hN : N < 65) (h1 : k1 < 211) (h2 : k2 < 211) (hc1 : ∀ x : XS, cellV E x m g o k1 = ar E N (x k1)) (hc2 : ∀ x : XS, cellV E x m g o k2 = ar E N (x k2)) (hf : 1 ≤ R.frames) (hl : 28 ≤ R.locals) (hdg : decode cc pc = .ok (.invokestatic 332, 3))
    (kk : ∀ (H1 : Heap) (locs1 : List Loc), Wd E (cpA x k1 k2 N) m g o H1 → va_S (Ah E) s.heap H1 locs1 → W p l e R s mi args below meth c H1 locs1 cells slots Q (F0 mi (pc + 3) ls [])) : W p l e R s mi args below meth c H locs cells slots Q (F0 mi pc ls [.int (Int32.ofNat N), .int 0, .ref (eh E + k2), .int 0, .ref (eh E + k1)]) := by
  have hn : (Int32.ofNat N).toNatClampNeg = N := nI_clamp (by omega)
  have hz : (0 : Int32).toNatClampNeg = 0 := by decide
  refine va_copyi (D := eD E) (cl := vwCl) (tys := tyE E) (ws := wl E x m g o) (A := Ah E) (H0 := s.heap) (c0 := eI E) (c1 := eI E) (n0 := N) (n1 := N) (f := x k1) (g := x k2) (ty := .int) hx hb hml hown (hB _ q_185) (hB _ q_187) (hB _ q_186) (hB _ q_65) hK.1 (wl_P hW) wl_D hS k1 k2 0 0 (wl_get (by omega) (hc1 x)) (wl_get (by omega) (hc2 x)) rfl rfl rfl (by decide) (by decide) (nI_pos (by omega)) (by rw [hn, hz]; omega) (by rw [hn, hz]; omega) (fun _ _ => rfl) hf (by have hw : nativeFrameWords "java/lang/System" "arraycopy" 5 + 11 ≤ 28 := (by decide); show 0 + _ ≤ _; omega) hdg (fun H1 locs1 hP hD hS1 => ?_)
  rw [hn, hz] at hP
  exact kk H1 locs1 (wl_up (k := k2) (by omega) hP (by rw [hc2]; unfold cpA; rw [if_pos rfl]) cellV_cp) hS1
end BS
set_option maxRecDepth 100000 in
set_option maxHeartbeats 4000000 in
theorem p_X4_copyAll (l : Launch) (E : TE) {k1 k2 N : Nat} (hN : N < 65) (h1 : k1 < 211) (h2 : k2 < 211) {m : XS} {g o : Int64} (hc1 : ∀ x : XS, cellV E x m g o k1 = ar E N (x k1)) (hc2 : ∀ x : XS, cellV E x m g o k2 = ar E N (x k2)) (x : XS) : MG l E yX4_copyAll cX4_copyAll 2 none 2 [rf E k1, rf E k2] (Wd E x m g o) (Wd E (cpA x k1 k2 N) m g o) none := by
  refine m_in (by decide) (Nat.le_of_ble_eq_true rfl) ?_
  intro p e s mi args below meth c H ls hx hb hr hlk hml hown hB hK hW hS hl
  have hl : lv_has ls 2 [(0, rf E k1), (1, rf E k2)] := hl
  refine lv_aload_n hx hb dX4_copyAll_0 rfl (lv_at hl 0 rfl) ?_
  refine lv_iconst (v := 0) hx hb dX4_copyAll_1 (by decide) ?_
  refine lv_aload_n hx hb dX4_copyAll_2 rfl (lv_at hl 1 rfl) ?_
  refine lv_iconst (v := 0) hx hb dX4_copyAll_3 (by decide) ?_
  refine lv_aload_n hx hb dX4_copyAll_4 rfl (lv_at hl 0 rfl) ?_
  refine r_alen hx hb hK hW (by omega) (hc1 x) rfl dX4_copyAll_5 ?_
  refine lv_aload_n hx hb dX4_copyAll_6 rfl (lv_at hl 1 rfl) ?_
  refine r_alen hx hb hK hW (by omega) (hc2 x) rfl dX4_copyAll_7 ?_
  refine va_mmin hx hb (hml.trans hl.1.symm) hown (hB _ q_182) (hB _ q_183) (hB _ q_64) (hB _ q_184) (Nat.le_of_ble_eq_true rfl) (Nat.le_of_ble_eq_true rfl) (Nat.le_refl 0) (Nat.le_refl 0) dX4_copyAll_8 ?_
  refine lv_nm (v := Int32.ofNat N) (by split <;> rfl) ?_
  refine r_copy hx hb (hml.trans hl.1.symm) hown hB hK hW hS hN h1 h2 hc1 hc2 (Nat.le_of_ble_eq_true rfl) (Nat.le_of_ble_eq_true rfl) dX4_copyAll_11 (fun H locs hW hS => ?_)
  exact e_v hx hb hr hlk hW hS dX4_copyAll_14
def f_X4_savedAt (a0 : Int32) : Option Nat := (f_X4_isWithin a0 0 5).bind fun v => if (v = 0 : Prop) then none else if a0 < 0 ∨ 6 ≤ a0.toNatClampNeg then none else some (55 + 26 * a0.toNatClampNeg)
theorem f_X4_savedAt_B {a0 : Int32} {w : Nat} (hf : f_X4_savedAt a0 = some w) : IsB w := by
  unfold f_X4_savedAt at hf
  obtain ⟨v, -, hf⟩ := ob2 hf
  split at hf
  · cases hf
  · split at hf
    · cases hf
    · rename_i h
      cases hf
      exact Or.inr (Or.inr ⟨_, Nat.not_le.mp (fun q => h (Or.inr q)), rfl⟩)
set_option maxRecDepth 100000 in
set_option maxHeartbeats 4000000 in
theorem p_X4_savedAt (l : Launch) (E : TE) (x m : XS) (g o : Int64) {a0 : Int32} {r : Nat} (hf : f_X4_savedAt a0 = some r) : MG l E yX4_savedAt cX4_savedAt 2 (some (.object "AmendsLedger$State")) 1 [rf E 0, .int a0] (Wd E x m g o) (Wd E x m g o) (some (.ref (eh E + r))) := by
  unfold f_X4_savedAt at hf
  refine m_in (by decide) (Nat.le_of_ble_eq_true rfl) ?_
  intro p e s mi args below meth c H ls hx hb hr hlk hml hown hB hK hW hS hl
  have hl : lv_has ls 2 [(0, rf E 0), (1, .int a0)] := hl
  refine lv_iload_n hx hb dX4_savedAt_0 rfl (lv_at hl 1 rfl) ?_
  refine lv_iconst (v := 0) hx hb dX4_savedAt_1 (by decide) ?_
  refine lv_iconst (v := 5) hx hb dX4_savedAt_2 (by decide) ?_
  obtain ⟨v3, e3, hf⟩ := ob2 hf
  refine c_S (As := [.int a0, .int 0, .int 5]) (st1 := [.int v3]) (rest := []) (p_X4_isWithin l E x m g o e3) (kc_X4_35 hB ⟨Nat.le_of_ble_eq_true rfl, Nat.le_of_ble_eq_true rfl⟩) hx hb hml hown hB hK hW hS ⟨Nat.le_refl 0, Nat.le_refl 0⟩ rfl hl.1 rfl (Nat.le_of_ble_eq_true rfl) rfl dX4_savedAt_3 (fun H locs hW hS => ?_)
  refine lv_if_eq (tgt := 18) hx hb dX4_savedAt_6 (by decide) (fun c4 => ?_) (fun c4 => ?_)
  · rw [if_pos c4] at hf; cases hf
  · rw [if_neg c4] at hf
    by_cases hi : a0 < 0 ∨ 6 ≤ a0.toNatClampNeg
    · rw [if_pos hi] at hf; cases hf
    · rw [if_neg hi] at hf
      cases hf
      refine lv_aload_n hx hb dX4_savedAt_9 rfl (lv_at hl 0 rfl) ?_
      refine gf_X4_19 hx hb hB hK hown hW dX4_savedAt_10 ?_
      refine lv_iload_n hx hb dX4_savedAt_13 rfl (lv_at hl 1 rfl) ?_
      refine va_aldq (D := eD E) (cl := vwCl) (tys := tyE E) (ws := [(eh E + 53, .inl (eS E, 6, .inr (.inr (.inr (.inr (fun i => some (eh E + (55 + 26 * i))))))))]) (C := "AmendsLedger$State") hx hb hK.1 (hW.at (by decide) cX_53) 0 1 rfl rfl hi dX4_savedAt_14 ?_
      refine lv_goto (tgt := 19) hx hb dX4_savedAt_15 (by decide) ?_
      exact e_a hx hb hr hlk hW hS dX4_savedAt_19

def f_X4_isKind (a0 : Int32) : Option (Int32) :=
    if (a0 < 0 : Prop) then
      some 0
    else
      (if (4 ≤ a0 : Prop) then
        some 0
      else
        some 1)
set_option maxRecDepth 100000 in
set_option maxHeartbeats 4000000 in
theorem p_X4_isKind (l : Launch) (E : TE) (x m : XS) (g o : Int64) {a0 : Int32} {r : Int32} (hf : f_X4_isKind a0 = some r) : MG l E yX4_isKind cX4_isKind 1 (some .boolean) 0 [.int a0] (Wd E x m g o) (Wd E x m g o) (some (.int r)) := by
  unfold f_X4_isKind at hf
  refine m_in (by decide) (Nat.le_of_ble_eq_true rfl) ?_
  intro p e s mi args below meth c H ls hx hb hr hlk hml hown hB hK hW hS hl
  have hl : lv_has ls 1 [(0, .int a0)] := hl
  refine lv_iload_n hx hb dX4_isKind_0 rfl (lv_at hl 0 rfl) ?_
  refine lv_if_lt (tgt := 13) hx hb dX4_isKind_1 (by decide) (fun c1 => ?_) (fun c1 => ?_)
  · rw [if_pos c1] at hf
    refine lv_iconst (v := 0) hx hb dX4_isKind_13 (by decide) ?_
    cases hf
    exact e_z hx hb hr hlk (Or.inl rfl) hW hS dX4_isKind_14
  · rw [if_neg c1] at hf
    refine lv_iload_n hx hb dX4_isKind_4 rfl (lv_at hl 0 rfl) ?_
    refine lv_iconst (v := 4) hx hb dX4_isKind_5 (by decide) ?_
    refine lv_icmp_ge (tgt := 13) hx hb dX4_isKind_6 (by decide) (fun c6 => ?_) (fun c6 => ?_)
    · rw [if_pos c6] at hf
      refine lv_iconst (v := 0) hx hb dX4_isKind_13 (by decide) ?_
      cases hf
      exact e_z hx hb hr hlk (Or.inl rfl) hW hS dX4_isKind_14
    · rw [if_neg c6] at hf
      refine lv_iconst (v := 1) hx hb dX4_isKind_9 (by decide) ?_
      refine lv_goto (tgt := 14) hx hb dX4_isKind_10 (by decide) ?_
      cases hf
      exact e_z hx hb hr hlk (Or.inr rfl) hW hS dX4_isKind_14
def f_X4_isGroup (a0 : Int32) : Option (Int32) :=
    if (a0 < 0 : Prop) then
      some 0
    else
      (if (3 ≤ a0 : Prop) then
        some 0
      else
        some 1)
set_option maxRecDepth 100000 in
set_option maxHeartbeats 4000000 in
theorem p_X4_isGroup (l : Launch) (E : TE) (x m : XS) (g o : Int64) {a0 : Int32} {r : Int32} (hf : f_X4_isGroup a0 = some r) : MG l E yX4_isGroup cX4_isGroup 1 (some .boolean) 0 [.int a0] (Wd E x m g o) (Wd E x m g o) (some (.int r)) := by
  unfold f_X4_isGroup at hf
  refine m_in (by decide) (Nat.le_of_ble_eq_true rfl) ?_
  intro p e s mi args below meth c H ls hx hb hr hlk hml hown hB hK hW hS hl
  have hl : lv_has ls 1 [(0, .int a0)] := hl
  refine lv_iload_n hx hb dX4_isGroup_0 rfl (lv_at hl 0 rfl) ?_
  refine lv_if_lt (tgt := 13) hx hb dX4_isGroup_1 (by decide) (fun c1 => ?_) (fun c1 => ?_)
  · rw [if_pos c1] at hf
    refine lv_iconst (v := 0) hx hb dX4_isGroup_13 (by decide) ?_
    cases hf
    exact e_z hx hb hr hlk (Or.inl rfl) hW hS dX4_isGroup_14
  · rw [if_neg c1] at hf
    refine lv_iload_n hx hb dX4_isGroup_4 rfl (lv_at hl 0 rfl) ?_
    refine lv_iconst (v := 3) hx hb dX4_isGroup_5 (by decide) ?_
    refine lv_icmp_ge (tgt := 13) hx hb dX4_isGroup_6 (by decide) (fun c6 => ?_) (fun c6 => ?_)
    · rw [if_pos c6] at hf
      refine lv_iconst (v := 0) hx hb dX4_isGroup_13 (by decide) ?_
      cases hf
      exact e_z hx hb hr hlk (Or.inl rfl) hW hS dX4_isGroup_14
    · rw [if_neg c6] at hf
      refine lv_iconst (v := 1) hx hb dX4_isGroup_9 (by decide) ?_
      refine lv_goto (tgt := 14) hx hb dX4_isGroup_10 (by decide) ?_
      cases hf
      exact e_z hx hb hr hlk (Or.inr rfl) hW hS dX4_isGroup_14
def f_X4_isSetting (a0 : Int32) : Option (Int32) :=
    if (a0 < 0 : Prop) then
      some 0
    else
      (if (3 ≤ a0 : Prop) then
        some 0
      else
        some 1)
set_option maxRecDepth 100000 in
set_option maxHeartbeats 4000000 in
theorem p_X4_isSetting (l : Launch) (E : TE) (x m : XS) (g o : Int64) {a0 : Int32} {r : Int32} (hf : f_X4_isSetting a0 = some r) : MG l E yX4_isSetting cX4_isSetting 1 (some .boolean) 0 [.int a0] (Wd E x m g o) (Wd E x m g o) (some (.int r)) := by
  unfold f_X4_isSetting at hf
  refine m_in (by decide) (Nat.le_of_ble_eq_true rfl) ?_
  intro p e s mi args below meth c H ls hx hb hr hlk hml hown hB hK hW hS hl
  have hl : lv_has ls 1 [(0, .int a0)] := hl
  refine lv_iload_n hx hb dX4_isSetting_0 rfl (lv_at hl 0 rfl) ?_
  refine lv_if_lt (tgt := 13) hx hb dX4_isSetting_1 (by decide) (fun c1 => ?_) (fun c1 => ?_)
  · rw [if_pos c1] at hf
    refine lv_iconst (v := 0) hx hb dX4_isSetting_13 (by decide) ?_
    cases hf
    exact e_z hx hb hr hlk (Or.inl rfl) hW hS dX4_isSetting_14
  · rw [if_neg c1] at hf
    refine lv_iload_n hx hb dX4_isSetting_4 rfl (lv_at hl 0 rfl) ?_
    refine lv_iconst (v := 3) hx hb dX4_isSetting_5 (by decide) ?_
    refine lv_icmp_ge (tgt := 13) hx hb dX4_isSetting_6 (by decide) (fun c6 => ?_) (fun c6 => ?_)
    · rw [if_pos c6] at hf
      refine lv_iconst (v := 0) hx hb dX4_isSetting_13 (by decide) ?_
      cases hf
      exact e_z hx hb hr hlk (Or.inl rfl) hW hS dX4_isSetting_14
    · rw [if_neg c6] at hf
      refine lv_iconst (v := 1) hx hb dX4_isSetting_9 (by decide) ?_
      refine lv_goto (tgt := 14) hx hb dX4_isSetting_10 (by decide) ?_
      cases hf
      exact e_z hx hb hr hlk (Or.inr rfl) hW hS dX4_isSetting_14
def f_X4_isCustomer (a0 : Int32) : Option (Int32) :=
    if (a0 < 0 : Prop) then
      some 0
    else
      (if (10 ≤ a0 : Prop) then
        some 0
      else
        some 1)
set_option maxRecDepth 100000 in
set_option maxHeartbeats 4000000 in
theorem p_X4_isCustomer (l : Launch) (E : TE) (x m : XS) (g o : Int64) {a0 : Int32} {r : Int32} (hf : f_X4_isCustomer a0 = some r) : MG l E yX4_isCustomer cX4_isCustomer 1 (some .boolean) 0 [.int a0] (Wd E x m g o) (Wd E x m g o) (some (.int r)) := by
  unfold f_X4_isCustomer at hf
  refine m_in (by decide) (Nat.le_of_ble_eq_true rfl) ?_
  intro p e s mi args below meth c H ls hx hb hr hlk hml hown hB hK hW hS hl
  have hl : lv_has ls 1 [(0, .int a0)] := hl
  refine lv_iload_n hx hb dX4_isCustomer_0 rfl (lv_at hl 0 rfl) ?_
  refine lv_if_lt (tgt := 14) hx hb dX4_isCustomer_1 (by decide) (fun c1 => ?_) (fun c1 => ?_)
  · rw [if_pos c1] at hf
    refine lv_iconst (v := 0) hx hb dX4_isCustomer_14 (by decide) ?_
    cases hf
    exact e_z hx hb hr hlk (Or.inl rfl) hW hS dX4_isCustomer_15
  · rw [if_neg c1] at hf
    refine lv_iload_n hx hb dX4_isCustomer_4 rfl (lv_at hl 0 rfl) ?_
    refine lv_bipush (v := 10) hx hb dX4_isCustomer_5 (by decide) ?_
    refine lv_icmp_ge (tgt := 14) hx hb dX4_isCustomer_7 (by decide) (fun c7 => ?_) (fun c7 => ?_)
    · rw [if_pos c7] at hf
      refine lv_iconst (v := 0) hx hb dX4_isCustomer_14 (by decide) ?_
      cases hf
      exact e_z hx hb hr hlk (Or.inl rfl) hW hS dX4_isCustomer_15
    · rw [if_neg c7] at hf
      refine lv_iconst (v := 1) hx hb dX4_isCustomer_10 (by decide) ?_
      refine lv_goto (tgt := 15) hx hb dX4_isCustomer_11 (by decide) ?_
      cases hf
      exact e_z hx hb hr hlk (Or.inr rfl) hW hS dX4_isCustomer_15
def f_X4_requireIndex (a0 : Int32) : Option (Unit) :=
    if (a0 = 0 : Prop) then
      none
    else
      some ()
set_option maxRecDepth 100000 in
set_option maxHeartbeats 4000000 in
theorem p_X4_requireIndex (l : Launch) (E : TE) (x m : XS) (g o : Int64) {a0 : Int32} (hf : f_X4_requireIndex a0 = some ()) : MG l E yX4_requireIndex cX4_requireIndex 1 none 1 [.int a0] (Wd E x m g o) (Wd E x m g o) none := by
  unfold f_X4_requireIndex at hf
  refine m_in (by decide) (Nat.le_of_ble_eq_true rfl) ?_
  intro p e s mi args below meth c H ls hx hb hr hlk hml hown hB hK hW hS hl
  have hl : lv_has ls 1 [(0, .int a0)] := hl
  refine lv_iload_n hx hb dX4_requireIndex_0 rfl (lv_at hl 0 rfl) ?_
  refine lv_if_ne (tgt := 12) hx hb dX4_requireIndex_1 (by decide) (fun c1 => ?_) (fun c1 => ?_)
  · rw [if_neg c1] at hf
    cases hf
    exact e_v hx hb hr hlk hW hS dX4_requireIndex_12
  · rw [if_pos c1] at hf
    cases hf
def f_X4_requireArgument (a0 : Int32) : Option (Unit) :=
    if (a0 = 0 : Prop) then
      none
    else
      some ()
set_option maxRecDepth 100000 in
set_option maxHeartbeats 4000000 in
theorem p_X4_requireArgument (l : Launch) (E : TE) (x m : XS) (g o : Int64) {a0 : Int32} (hf : f_X4_requireArgument a0 = some ()) : MG l E yX4_requireArgument cX4_requireArgument 1 none 1 [.int a0] (Wd E x m g o) (Wd E x m g o) none := by
  unfold f_X4_requireArgument at hf
  refine m_in (by decide) (Nat.le_of_ble_eq_true rfl) ?_
  intro p e s mi args below meth c H ls hx hb hr hlk hml hown hB hK hW hS hl
  have hl : lv_has ls 1 [(0, .int a0)] := hl
  refine lv_iload_n hx hb dX4_requireArgument_0 rfl (lv_at hl 0 rfl) ?_
  refine lv_if_ne (tgt := 12) hx hb dX4_requireArgument_1 (by decide) (fun c1 => ?_) (fun c1 => ?_)
  · rw [if_neg c1] at hf
    cases hf
    exact e_v hx hb hr hlk hW hS dX4_requireArgument_12
  · rw [if_pos c1] at hf
    cases hf
def f_X4_requireState (a0 : Int32) : Option (Unit) :=
    if (a0 = 0 : Prop) then
      none
    else
      some ()
set_option maxRecDepth 100000 in
set_option maxHeartbeats 4000000 in
theorem p_X4_requireState (l : Launch) (E : TE) (x m : XS) (g o : Int64) {a0 : Int32} (hf : f_X4_requireState a0 = some ()) : MG l E yX4_requireState cX4_requireState 1 none 1 [.int a0] (Wd E x m g o) (Wd E x m g o) none := by
  unfold f_X4_requireState at hf
  refine m_in (by decide) (Nat.le_of_ble_eq_true rfl) ?_
  intro p e s mi args below meth c H ls hx hb hr hlk hml hown hB hK hW hS hl
  have hl : lv_has ls 1 [(0, .int a0)] := hl
  refine lv_iload_n hx hb dX4_requireState_0 rfl (lv_at hl 0 rfl) ?_
  refine lv_if_ne (tgt := 12) hx hb dX4_requireState_1 (by decide) (fun c1 => ?_) (fun c1 => ?_)
  · rw [if_neg c1] at hf
    cases hf
    exact e_v hx hb hr hlk hW hS dX4_requireState_12
  · rw [if_pos c1] at hf
    cases hf
def f_JD_isNaN (a0 : UInt64) : Option (Int32) :=
    if ((Op.cmpValue (FP.dcmp a0 a0) .l) = 0 : Prop) then
      some 0
    else
      some 1
set_option maxRecDepth 100000 in
set_option maxHeartbeats 4000000 in
theorem p_JD_isNaN (l : Launch) (E : TE) (x m : XS) (g o : Int64) {a0 : UInt64} {r : Int32} (hf : f_JD_isNaN a0 = some r) : MG l E yJD_isNaN cJD_isNaN 2 (some .boolean) 0 [.double a0] (Wd E x m g o) (Wd E x m g o) (some (.int r)) := by
  unfold f_JD_isNaN at hf
  refine m_in (by decide) (Nat.le_of_ble_eq_true rfl) ?_
  intro p e s mi args below meth c H ls hx hb hr hlk hml hown hB hK hW hS hl
  have hl : lv_has ls 2 [(0, .double a0)] := hl
  refine lv_dload_n hx hb dJD_isNaN_0 rfl (lv_at hl 0 rfl) ?_
  refine lv_dload_n hx hb dJD_isNaN_1 rfl (lv_at hl 0 rfl) ?_
  refine lv_dcmp hx hb dJD_isNaN_2 ?_
  refine lv_if_eq (tgt := 10) hx hb dJD_isNaN_3 (by decide) (fun c3 => ?_) (fun c3 => ?_)
  · rw [if_pos c3] at hf
    refine lv_iconst (v := 0) hx hb dJD_isNaN_10 (by decide) ?_
    cases hf
    exact e_z hx hb hr hlk (Or.inl rfl) hW hS dJD_isNaN_11
  · rw [if_neg c3] at hf
    refine lv_iconst (v := 1) hx hb dJD_isNaN_6 (by decide) ?_
    refine lv_goto (tgt := 11) hx hb dJD_isNaN_7 (by decide) ?_
    cases hf
    exact e_z hx hb hr hlk (Or.inr rfl) hW hS dJD_isNaN_11
def f_JD_doubleToLongBits (a0 : UInt64) : Option (Int64) :=
    (f_JD_isNaN a0).bind fun v1 =>
    if (v1 = 0 : Prop) then
      some ((a0 : UInt64).toInt64)
    else
      some 9221120237041090560
set_option maxRecDepth 100000 in
set_option maxHeartbeats 4000000 in
theorem p_JD_doubleToLongBits (l : Launch) (E : TE) (x m : XS) (g o : Int64) {a0 : UInt64} {r : Int64} (hf : f_JD_doubleToLongBits a0 = some r) : MG l E yJD_doubleToLongBits cJD_doubleToLongBits 2 (some .long) 1 [.double a0] (Wd E x m g o) (Wd E x m g o) (some (.long r)) := by
  unfold f_JD_doubleToLongBits at hf
  refine m_in (by decide) (Nat.le_of_ble_eq_true rfl) ?_
  intro p e s mi args below meth c H ls hx hb hr hlk hml hown hB hK hW hS hl
  have hl : lv_has ls 2 [(0, .double a0)] := hl
  refine lv_dload_n hx hb dJD_doubleToLongBits_0 rfl (lv_at hl 0 rfl) ?_
  obtain ⟨v1, e1, hf⟩ := ob2 hf
  refine c_S (As := [.double a0]) (st1 := [.int v1]) (rest := []) (p_JD_isNaN l E x m g o e1) (kc_JD_122 hB ⟨Nat.le_of_ble_eq_true rfl, Nat.le_of_ble_eq_true rfl⟩) hx hb hml hown hB hK hW hS ⟨Nat.zero_le _, Nat.zero_le _⟩ rfl hl.1 rfl (Nat.le_of_ble_eq_true rfl) rfl dJD_doubleToLongBits_1 (fun H locs hW hS => ?_)
  refine lv_if_ne (tgt := 12) hx hb dJD_doubleToLongBits_4 (by decide) (fun c4 => ?_) (fun c4 => ?_)
  · rw [if_neg c4] at hf
    refine lv_ldc2 (v := 9221120237041090560) hx hb hown (hB _ q_1277) dJD_doubleToLongBits_12 ?_
    cases hf
    exact e_l hx hb hr hlk hW hS dJD_doubleToLongBits_15
  · rw [if_pos c4] at hf
    refine lv_dload_n hx hb dJD_doubleToLongBits_7 rfl (lv_at hl 0 rfl) ?_
    refine vn_d2l hx hb (hml.trans hl.1.symm) hown (hB _ q_1274) (hB _ q_1276) (hB _ q_1275) (hB _ q_74) (Nat.le_of_ble_eq_true rfl) (Nat.le_of_ble_eq_true rfl) dJD_doubleToLongBits_8 ?_
    cases hf
    exact e_l hx hb hr hlk hW hS dJD_doubleToLongBits_11
theorem dX4_isValueOf_0 : decode cX4_isValueOf 0 = .ok (.iload_n 0, 1) := by decide +kernel
theorem dX4_isValueOf_1 : decode cX4_isValueOf 1 = .ok (.invokestatic 76, 3) := by decide +kernel
theorem dX4_isValueOf_4 : decode cX4_isValueOf 4 = .ok (.ifCond .eq 24, 3) := by decide +kernel
theorem dX4_isValueOf_7 : decode cX4_isValueOf 7 = .ok (.iload_n 1, 1) := by decide +kernel
theorem dX4_isValueOf_8 : decode cX4_isValueOf 8 = .ok (.getstatic 321, 3) := by decide +kernel
theorem dX4_isValueOf_11 : decode cX4_isValueOf 11 = .ok (.iload_n 0, 1) := by decide +kernel
theorem dX4_isValueOf_12 : decode cX4_isValueOf 12 = .ok (.iaload, 1) := by decide +kernel
theorem dX4_isValueOf_13 : decode cX4_isValueOf 13 = .ok (.getstatic 324, 3) := by decide +kernel
theorem dX4_isValueOf_16 : decode cX4_isValueOf 16 = .ok (.iload_n 0, 1) := by decide +kernel
theorem dX4_isValueOf_17 : decode cX4_isValueOf 17 = .ok (.iaload, 1) := by decide +kernel
theorem dX4_isValueOf_18 : decode cX4_isValueOf 18 = .ok (.invokestatic 35, 3) := by decide +kernel
theorem dX4_isValueOf_21 : decode cX4_isValueOf 21 = .ok (.ifCond .eq 7, 3) := by decide +kernel
theorem dX4_isValueOf_24 : decode cX4_isValueOf 24 = .ok (.iconst 1, 1) := by decide +kernel
theorem dX4_isValueOf_25 : decode cX4_isValueOf 25 = .ok (.goto 4, 3) := by decide +kernel
theorem dX4_isValueOf_28 : decode cX4_isValueOf 28 = .ok (.iconst 0, 1) := by decide +kernel
theorem dX4_isValueOf_29 : decode cX4_isValueOf 29 = .ok (.ireturn, 1) := by decide +kernel
def f_X4_isValueOf (x : XS) (a0 : Int32) (a1 : Int32) : Option (Int32) :=
    (f_X4_isSetting a0).bind fun v1 =>
    if (v1 = 0 : Prop) then
      some 0
    else
      ((aget 3 fM a0).bind fun v12 =>
      (aget 3 fG a0).bind fun v17 =>
      (f_X4_isWithin a1 v12 v17).bind fun v18 =>
      if (v18 = 0 : Prop) then
        some 0
      else
        some 1)
set_option maxRecDepth 100000 in
set_option maxHeartbeats 4000000 in
theorem p_X4_isValueOf (l : Launch) (E : TE) (x m : XS) (g o : Int64) {a0 : Int32} {a1 : Int32} {r : Int32} (hf : f_X4_isValueOf x a0 a1 = some r) : MG l E yX4_isValueOf cX4_isValueOf 2 (some .boolean) 1 [.int a0, .int a1] (Wd E x m g o) (Wd E x m g o) (some (.int r)) := by
  unfold f_X4_isValueOf at hf
  refine m_in (by decide) (Nat.le_of_ble_eq_true rfl) ?_
  intro p e s mi args below meth c H ls hx hb hr hlk hml hown hB hK hW hS hl
  have hl : lv_has ls 2 [(0, .int a0), (1, .int a1)] := hl
  refine lv_iload_n hx hb dX4_isValueOf_0 rfl (lv_at hl 0 rfl) ?_
  obtain ⟨v1, e1, hf⟩ := ob2 hf
  refine c_S (As := [.int a0]) (st1 := [.int v1]) (rest := []) (p_X4_isSetting l E x m g o e1) (kc_X4_76 hB ⟨Nat.le_of_ble_eq_true rfl, Nat.le_of_ble_eq_true rfl⟩) hx hb hml hown hB hK hW hS ⟨Nat.zero_le _, Nat.zero_le _⟩ rfl hl.1 rfl (Nat.le_of_ble_eq_true rfl) rfl dX4_isValueOf_1 (fun H locs hW hS => ?_)
  refine lv_if_eq (tgt := 28) hx hb dX4_isValueOf_4 (by decide) (fun c4 => ?_) (fun c4 => ?_)
  · rw [if_pos c4] at hf
    refine lv_iconst (v := 0) hx hb dX4_isValueOf_28 (by decide) ?_
    cases hf
    exact e_z hx hb hr hlk (Or.inl rfl) hW hS dX4_isValueOf_29
  · rw [if_neg c4] at hf
    refine lv_iload_n hx hb dX4_isValueOf_7 rfl (lv_at hl 1 rfl) ?_
    refine va_gets hx hb hK.2.2.1.2.1.1 hS hown (hB _ q_776) (fun _ h9 => h9) dX4_isValueOf_8 ?_
    refine lv_iload_n hx hb dX4_isValueOf_11 rfl (lv_at hl 0 rfl) ?_
    obtain ⟨v12, e12, hf⟩ := ob2 hf
    refine r_sald hx hb hK.2.2.1.2.1.2 hS e12 dX4_isValueOf_12 ?_
    refine va_gets hx hb hK.2.2.1.2.2.1 hS hown (hB _ q_778) (fun _ h9 => h9) dX4_isValueOf_13 ?_
    refine lv_iload_n hx hb dX4_isValueOf_16 rfl (lv_at hl 0 rfl) ?_
    obtain ⟨v17, e17, hf⟩ := ob2 hf
    refine r_sald hx hb hK.2.2.1.2.2.2 hS e17 dX4_isValueOf_17 ?_
    obtain ⟨v18, e18, hf⟩ := ob2 hf
    refine c_S (As := [.int a1, .int v12, .int v17]) (st1 := [.int v18]) (rest := []) (p_X4_isWithin l E x m g o e18) (kc_X4_35 hB ⟨Nat.le_of_ble_eq_true rfl, Nat.le_of_ble_eq_true rfl⟩) hx hb hml hown hB hK hW hS ⟨Nat.zero_le _, Nat.zero_le _⟩ rfl hl.1 rfl (Nat.le_of_ble_eq_true rfl) rfl dX4_isValueOf_18 (fun H locs hW hS => ?_)
    refine lv_if_eq (tgt := 28) hx hb dX4_isValueOf_21 (by decide) (fun c21 => ?_) (fun c21 => ?_)
    · rw [if_pos c21] at hf
      refine lv_iconst (v := 0) hx hb dX4_isValueOf_28 (by decide) ?_
      cases hf
      exact e_z hx hb hr hlk (Or.inl rfl) hW hS dX4_isValueOf_29
    · rw [if_neg c21] at hf
      refine lv_iconst (v := 1) hx hb dX4_isValueOf_24 (by decide) ?_
      refine lv_goto (tgt := 29) hx hb dX4_isValueOf_25 (by decide) ?_
      cases hf
      exact e_z hx hb hr hlk (Or.inr rfl) hW hS dX4_isValueOf_29
