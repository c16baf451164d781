theorem dX4_isKind_0 : decode cX4_isKind 0 = .ok (.iload_n 0, 1) := by decide +kernel
theorem dX4_isKind_1 : decode cX4_isKind 1 = .ok (.ifCond .lt 12, 3) := by decide +kernel
theorem dX4_isKind_4 : decode cX4_isKind 4 = .ok (.iload_n 0, 1) := by decide +kernel
theorem dX4_isKind_5 : decode cX4_isKind 5 = .ok (.iconst 4, 1) := by decide +kernel
theorem dX4_isKind_6 : decode cX4_isKind 6 = .ok (.if_icmp .ge 7, 3) := by decide +kernel
theorem dX4_isKind_9 : decode cX4_isKind 9 = .ok (.iconst 1, 1) := by decide +kernel
theorem dX4_isKind_10 : decode cX4_isKind 10 = .ok (.goto 4, 3) := by decide +kernel
theorem dX4_isKind_13 : decode cX4_isKind 13 = .ok (.iconst 0, 1) := by decide +kernel
theorem dX4_isKind_14 : decode cX4_isKind 14 = .ok (.ireturn, 1) := by decide +kernel
theorem dX1_has_0 : decode cX1_has 0 = .ok (.iload_n 1, 1) := by decide +kernel
theorem dX1_has_1 : decode cX1_has 1 = .ok (.invokestatic 31, 3) := by decide +kernel
theorem dX1_has_4 : decode cX1_has 4 = .ok (.ifCond .eq 21, 3) := by decide +kernel
theorem dX1_has_7 : decode cX1_has 7 = .ok (.iload_n 2, 1) := by decide +kernel
theorem dX1_has_8 : decode cX1_has 8 = .ok (.ifCond .lt 17, 3) := by decide +kernel
theorem dX1_has_11 : decode cX1_has 11 = .ok (.iload_n 2, 1) := by decide +kernel
theorem dX1_has_12 : decode cX1_has 12 = .ok (.aload_n 0, 1) := by decide +kernel
theorem dX1_has_13 : decode cX1_has 13 = .ok (.getfield 9, 3) := by decide +kernel
theorem dX1_has_16 : decode cX1_has 16 = .ok (.iload_n 1, 1) := by decide +kernel
theorem dX1_has_17 : decode cX1_has 17 = .ok (.iaload, 1) := by decide +kernel
theorem dX1_has_18 : decode cX1_has 18 = .ok (.if_icmp .ge 7, 3) := by decide +kernel
theorem dX1_has_21 : decode cX1_has 21 = .ok (.iconst 1, 1) := by decide +kernel
theorem dX1_has_22 : decode cX1_has 22 = .ok (.goto 4, 3) := by decide +kernel
theorem dX1_has_25 : decode cX1_has 25 = .ok (.iconst 0, 1) := by decide +kernel
theorem dX1_has_26 : decode cX1_has 26 = .ok (.ireturn, 1) := by decide +kernel
theorem dX1_sizeOf_0 : decode cX1_sizeOf 0 = .ok (.iload_n 1, 1) := by decide +kernel
theorem dX1_sizeOf_1 : decode cX1_sizeOf 1 = .ok (.invokestatic 31, 3) := by decide +kernel
theorem dX1_sizeOf_4 : decode cX1_sizeOf 4 = .ok (.ifCond .eq 12, 3) := by decide +kernel
theorem dX1_sizeOf_7 : decode cX1_sizeOf 7 = .ok (.aload_n 0, 1) := by decide +kernel
theorem dX1_sizeOf_8 : decode cX1_sizeOf 8 = .ok (.getfield 9, 3) := by decide +kernel
theorem dX1_sizeOf_11 : decode cX1_sizeOf 11 = .ok (.iload_n 1, 1) := by decide +kernel
theorem dX1_sizeOf_12 : decode cX1_sizeOf 12 = .ok (.iaload, 1) := by decide +kernel
theorem dX1_sizeOf_13 : decode cX1_sizeOf 13 = .ok (.goto 4, 3) := by decide +kernel
theorem dX1_sizeOf_16 : decode cX1_sizeOf 16 = .ok (.iconst 0, 1) := by decide +kernel
theorem dX1_sizeOf_17 : decode cX1_sizeOf 17 = .ok (.ireturn, 1) := by decide +kernel
theorem dX0_has_0 : decode cX0_has 0 = .ok (.iload_n 1, 1) := by decide +kernel
theorem dX0_has_1 : decode cX0_has 1 = .ok (.ifCond .lt 15, 3) := by decide +kernel
theorem dX0_has_4 : decode cX0_has 4 = .ok (.iload_n 1, 1) := by decide +kernel
theorem dX0_has_5 : decode cX0_has 5 = .ok (.aload_n 0, 1) := by decide +kernel
theorem dX0_has_6 : decode cX0_has 6 = .ok (.getfield 39, 3) := by decide +kernel
theorem dX0_has_9 : decode cX0_has 9 = .ok (.if_icmp .ge 7, 3) := by decide +kernel
theorem dX0_has_12 : decode cX0_has 12 = .ok (.iconst 1, 1) := by decide +kernel
theorem dX0_has_13 : decode cX0_has 13 = .ok (.goto 4, 3) := by decide +kernel
theorem dX0_has_16 : decode cX0_has 16 = .ok (.iconst 0, 1) := by decide +kernel
theorem dX0_has_17 : decode cX0_has 17 = .ok (.ireturn, 1) := by decide +kernel
theorem dX0_stageOf_0 : decode cX0_stageOf 0 = .ok (.aload_n 0, 1) := by decide +kernel
theorem dX0_stageOf_1 : decode cX0_stageOf 1 = .ok (.iload_n 1, 1) := by decide +kernel
theorem dX0_stageOf_2 : decode cX0_stageOf 2 = .ok (.invokevirtual 47, 3) := by decide +kernel
theorem dX0_stageOf_5 : decode cX0_stageOf 5 = .ok (.ifCond .eq 12, 3) := by decide +kernel
theorem dX0_stageOf_8 : decode cX0_stageOf 8 = .ok (.aload_n 0, 1) := by decide +kernel
theorem dX0_stageOf_9 : decode cX0_stageOf 9 = .ok (.getfield 21, 3) := by decide +kernel
theorem dX0_stageOf_12 : decode cX0_stageOf 12 = .ok (.iload_n 1, 1) := by decide +kernel
theorem dX0_stageOf_13 : decode cX0_stageOf 13 = .ok (.iaload, 1) := by decide +kernel
theorem dX0_stageOf_14 : decode cX0_stageOf 14 = .ok (.goto 4, 3) := by decide +kernel
theorem dX0_stageOf_17 : decode cX0_stageOf 17 = .ok (.iconst (-1), 1) := by decide +kernel
theorem dX0_stageOf_18 : decode cX0_stageOf 18 = .ok (.ireturn, 1) := by decide +kernel
theorem dX0_inStage_0 : decode cX0_inStage 0 = .ok (.iconst 0, 1) := by decide +kernel
theorem dX0_inStage_1 : decode cX0_inStage 1 = .ok (.istore_n 2, 1) := by decide +kernel
theorem dX0_inStage_2 : decode cX0_inStage 2 = .ok (.iconst 0, 1) := by decide +kernel
theorem dX0_inStage_3 : decode cX0_inStage 3 = .ok (.istore_n 3, 1) := by decide +kernel
theorem dX0_inStage_4 : decode cX0_inStage 4 = .ok (.iload_n 3, 1) := by decide +kernel
theorem dX0_inStage_5 : decode cX0_inStage 5 = .ok (.aload_n 0, 1) := by decide +kernel
theorem dX0_inStage_6 : decode cX0_inStage 6 = .ok (.getfield 39, 3) := by decide +kernel
theorem dX0_inStage_9 : decode cX0_inStage 9 = .ok (.if_icmp .ge 21, 3) := by decide +kernel
theorem dX0_inStage_12 : decode cX0_inStage 12 = .ok (.aload_n 0, 1) := by decide +kernel
theorem dX0_inStage_13 : decode cX0_inStage 13 = .ok (.iload_n 3, 1) := by decide +kernel
theorem dX0_inStage_14 : decode cX0_inStage 14 = .ok (.invokevirtual 51, 3) := by decide +kernel
theorem dX0_inStage_17 : decode cX0_inStage 17 = .ok (.iload_n 1, 1) := by decide +kernel
theorem dX0_inStage_18 : decode cX0_inStage 18 = .ok (.if_icmp .ne 6, 3) := by decide +kernel
theorem dX0_inStage_21 : decode cX0_inStage 21 = .ok (.iinc 2 1, 3) := by decide +kernel
theorem dX0_inStage_24 : decode cX0_inStage 24 = .ok (.iinc 3 1, 3) := by decide +kernel
theorem dX0_inStage_27 : decode cX0_inStage 27 = .ok (.goto (-23), 3) := by decide +kernel
theorem dX0_inStage_30 : decode cX0_inStage 30 = .ok (.iload_n 2, 1) := by decide +kernel
theorem dX0_inStage_31 : decode cX0_inStage 31 = .ok (.ireturn, 1) := by decide +kernel
theorem dX0_add_0 : decode cX0_add 0 = .ok (.aload_n 0, 1) := by decide +kernel
theorem dX0_add_1 : decode cX0_add 1 = .ok (.getfield 39, 3) := by decide +kernel
theorem dX0_add_4 : decode cX0_add 4 = .ok (.bipush 24, 2) := by decide +kernel
theorem dX0_add_6 : decode cX0_add 6 = .ok (.if_icmp .lt 5, 3) := by decide +kernel
theorem dX0_add_9 : decode cX0_add 9 = .ok (.iconst (-1), 1) := by decide +kernel
theorem dX0_add_10 : decode cX0_add 10 = .ok (.ireturn, 1) := by decide +kernel
theorem dX0_add_11 : decode cX0_add 11 = .ok (.aload_n 0, 1) := by decide +kernel
theorem dX0_add_12 : decode cX0_add 12 = .ok (.getfield 39, 3) := by decide +kernel
theorem dX0_add_15 : decode cX0_add 15 = .ok (.istore 4, 2) := by decide +kernel
theorem dX0_add_17 : decode cX0_add 17 = .ok (.aload_n 0, 1) := by decide +kernel
theorem dX0_add_18 : decode cX0_add 18 = .ok (.getfield 9, 3) := by decide +kernel
theorem dX0_add_21 : decode cX0_add 21 = .ok (.iload 4, 2) := by decide +kernel
theorem dX0_add_23 : decode cX0_add 23 = .ok (.iload_n 1, 1) := by decide +kernel
theorem dX0_add_24 : decode cX0_add 24 = .ok (.iastore, 1) := by decide +kernel
theorem dX0_add_25 : decode cX0_add 25 = .ok (.aload_n 0, 1) := by decide +kernel
theorem dX0_add_26 : decode cX0_add 26 = .ok (.getfield 15, 3) := by decide +kernel
theorem dX0_add_29 : decode cX0_add 29 = .ok (.iload 4, 2) := by decide +kernel
theorem dX0_add_31 : decode cX0_add 31 = .ok (.iload_n 2, 1) := by decide +kernel
theorem dX0_add_32 : decode cX0_add 32 = .ok (.iastore, 1) := by decide +kernel
theorem dX0_add_33 : decode cX0_add 33 = .ok (.aload_n 0, 1) := by decide +kernel
theorem dX0_add_34 : decode cX0_add 34 = .ok (.getfield 18, 3) := by decide +kernel
theorem dX0_add_37 : decode cX0_add 37 = .ok (.iload 4, 2) := by decide +kernel
theorem dX0_add_39 : decode cX0_add 39 = .ok (.iload_n 3, 1) := by decide +kernel
theorem dX0_add_40 : decode cX0_add 40 = .ok (.iastore, 1) := by decide +kernel
theorem dX0_add_41 : decode cX0_add 41 = .ok (.aload_n 0, 1) := by decide +kernel
theorem dX0_add_42 : decode cX0_add 42 = .ok (.getfield 21, 3) := by decide +kernel
theorem dX0_add_45 : decode cX0_add 45 = .ok (.iload 4, 2) := by decide +kernel
theorem dX0_add_47 : decode cX0_add 47 = .ok (.iconst 0, 1) := by decide +kernel
theorem dX0_add_48 : decode cX0_add 48 = .ok (.iastore, 1) := by decide +kernel
theorem dX0_add_49 : decode cX0_add 49 = .ok (.aload_n 0, 1) := by decide +kernel
theorem dX0_add_50 : decode cX0_add 50 = .ok (.getfield 24, 3) := by decide +kernel
theorem dX0_add_53 : decode cX0_add 53 = .ok (.iload 4, 2) := by decide +kernel
theorem dX0_add_55 : decode cX0_add 55 = .ok (.iconst (-1), 1) := by decide +kernel
theorem dX0_add_56 : decode cX0_add 56 = .ok (.iastore, 1) := by decide +kernel
theorem dX0_add_57 : decode cX0_add 57 = .ok (.aload_n 0, 1) := by decide +kernel
theorem dX0_add_58 : decode cX0_add 58 = .ok (.getfield 27, 3) := by decide +kernel
theorem dX0_add_61 : decode cX0_add 61 = .ok (.iload 4, 2) := by decide +kernel
theorem dX0_add_63 : decode cX0_add 63 = .ok (.iconst 0, 1) := by decide +kernel
theorem dX0_add_64 : decode cX0_add 64 = .ok (.iastore, 1) := by decide +kernel
theorem dX0_add_65 : decode cX0_add 65 = .ok (.aload_n 0, 1) := by decide +kernel
theorem dX0_add_66 : decode cX0_add 66 = .ok (.getfield 30, 3) := by decide +kernel
theorem dX0_add_69 : decode cX0_add 69 = .ok (.iload 4, 2) := by decide +kernel
theorem dX0_add_71 : decode cX0_add 71 = .ok (.iconst (-1), 1) := by decide +kernel
theorem dX0_add_72 : decode cX0_add 72 = .ok (.iastore, 1) := by decide +kernel
theorem dX0_add_73 : decode cX0_add 73 = .ok (.aload_n 0, 1) := by decide +kernel
theorem dX0_add_74 : decode cX0_add 74 = .ok (.getfield 33, 3) := by decide +kernel
theorem dX0_add_77 : decode cX0_add 77 = .ok (.iload 4, 2) := by decide +kernel
theorem dX0_add_79 : decode cX0_add 79 = .ok (.iconst (-1), 1) := by decide +kernel
theorem dX0_add_80 : decode cX0_add 80 = .ok (.iastore, 1) := by decide +kernel
theorem dX0_add_81 : decode cX0_add 81 = .ok (.aload_n 0, 1) := by decide +kernel
theorem dX0_add_82 : decode cX0_add 82 = .ok (.getfield 36, 3) := by decide +kernel
theorem dX0_add_85 : decode cX0_add 85 = .ok (.iload 4, 2) := by decide +kernel
theorem dX0_add_87 : decode cX0_add 87 = .ok (.iconst (-1), 1) := by decide +kernel
theorem dX0_add_88 : decode cX0_add 88 = .ok (.iastore, 1) := by decide +kernel
theorem dX0_add_89 : decode cX0_add 89 = .ok (.aload_n 0, 1) := by decide +kernel
theorem dX0_add_90 : decode cX0_add 90 = .ok (.iload 4, 2) := by decide +kernel
theorem dX0_add_92 : decode cX0_add 92 = .ok (.iconst 1, 1) := by decide +kernel
theorem dX0_add_93 : decode cX0_add 93 = .ok (.iadd, 1) := by decide +kernel
theorem dX0_add_94 : decode cX0_add 94 = .ok (.putfield 39, 3) := by decide +kernel
theorem dX0_add_97 : decode cX0_add 97 = .ok (.iload 4, 2) := by decide +kernel
theorem dX0_add_99 : decode cX0_add 99 = .ok (.ireturn, 1) := by decide +kernel
def f_X4_isKind (a0 : Int32) : Option (Int32) :=
    if (a0 < 0 : Prop) then
      some 0
    else
      (if (4 ≤ a0 : Prop) then
        some 0
      else
        some 1)
set_option maxRecDepth 100000 in
set_option maxHeartbeats 4000000 in
theorem p_X4_isKind (l : Launch) (E : TE) (x m : XS) (g o : Int64) {a0 : Int32} {r : Int32} (hf : f_X4_isKind a0 = some r) : MG l E yX4_isKind cX4_isKind 1 (some .boolean) 0 [.int a0] (Wd E x m g o) (Wd E x m g o) (some (.int r)) := by
  unfold f_X4_isKind at hf
  refine m_in (by decide) (Nat.le_of_ble_eq_true rfl) ?_
  intro p e s mi args below meth c H ls hx hb hr hlk hml hown hB hK hW hS hl
  have hl : lv_has ls 1 [(0, .int a0)] := hl
  refine lv_iload_n hx hb dX4_isKind_0 rfl (lv_at hl 0 rfl) ?_
  refine lv_if_lt (tgt := 13) hx hb dX4_isKind_1 (by decide) (fun c1 => ?_) (fun c1 => ?_)
  · rw [if_pos c1] at hf
    refine lv_iconst (v := 0) hx hb dX4_isKind_13 (by decide) ?_
    cases hf
    exact e_z hx hb hr hlk (Or.inl rfl) hW hS dX4_isKind_14
  · rw [if_neg c1] at hf
    refine lv_iload_n hx hb dX4_isKind_4 rfl (lv_at hl 0 rfl) ?_
    refine lv_iconst (v := 4) hx hb dX4_isKind_5 (by decide) ?_
    refine lv_icmp_ge (tgt := 13) hx hb dX4_isKind_6 (by decide) (fun c6 => ?_) (fun c6 => ?_)
    · rw [if_pos c6] at hf
      refine lv_iconst (v := 0) hx hb dX4_isKind_13 (by decide) ?_
      cases hf
      exact e_z hx hb hr hlk (Or.inl rfl) hW hS dX4_isKind_14
    · rw [if_neg c6] at hf
      refine lv_iconst (v := 1) hx hb dX4_isKind_9 (by decide) ?_
      refine lv_goto (tgt := 14) hx hb dX4_isKind_10 (by decide) ?_
      cases hf
      exact e_z hx hb hr hlk (Or.inr rfl) hW hS dX4_isKind_14
def f_X1_has (b : Nat) (x : XS) (a0 : Int32) (a1 : Int32) : Option (Int32) :=
    (f_X4_isKind a0).bind fun v1 =>
    if (v1 = 0 : Prop) then
      some 0
    else
      (if (a1 < 0 : Prop) then
        some 0
      else
        ((aget 4 (x (b + 2)) a0).bind fun v17 =>
        if (v17 ≤ a1 : Prop) then
          some 0
        else
          some 1))
set_option maxRecDepth 100000 in
set_option maxHeartbeats 4000000 in
theorem p_X1_has (l : Launch) (E : TE) {b : Nat} (hB_b : IsB b) (x m : XS) (g o : Int64) {a0 : Int32} {a1 : Int32} {r : Int32} (hf : f_X1_has b x a0 a1 = some r) : MG l E yX1_has cX1_has 3 (some .boolean) 1 [rf E (b + 1), .int a0, .int a1] (Wd E x m g o) (Wd E x m g o) (some (.int r)) := by
  unfold f_X1_has at hf
  refine m_in (by decide) (Nat.le_of_ble_eq_true rfl) ?_
  intro p e s mi args below meth c H ls hx hb hr hlk hml hown hB hK hW hS hl
  have hl : lv_has ls 3 [(0, rf E (b + 1)), (1, .int a0), (2, .int a1)] := hl
  refine lv_iload_n hx hb dX1_has_0 rfl (lv_at hl 1 rfl) ?_
  obtain ⟨v1, e1, hf⟩ := ob2 hf
  refine c_SN (As := [.int a0]) (st1 := [.int v1]) (rest := []) (p_X4_isKind l E x m g o e1) (kc_X1_31 hB hK ⟨Nat.le_of_ble_eq_true rfl, Nat.le_of_ble_eq_true rfl⟩) hx hb hml hown hB hK hW hS ⟨Nat.le_refl 0, Nat.le_refl 0⟩ rfl hl.1 rfl (Nat.le_of_ble_eq_true rfl) rfl dX1_has_1 (fun H locs hW hS => ?_)
  refine lv_if_eq (tgt := 25) hx hb dX1_has_4 (by decide) (fun c4 => ?_) (fun c4 => ?_)
  · rw [if_pos c4] at hf
    refine lv_iconst (v := 0) hx hb dX1_has_25 (by decide) ?_
    cases hf
    exact e_z hx hb hr hlk (Or.inl rfl) hW hS dX1_has_26
  · rw [if_neg c4] at hf
    refine lv_iload_n hx hb dX1_has_7 rfl (lv_at hl 2 rfl) ?_
    refine lv_if_lt (tgt := 25) hx hb dX1_has_8 (by decide) (fun c8 => ?_) (fun c8 => ?_)
    · rw [if_pos c8] at hf
      refine lv_iconst (v := 0) hx hb dX1_has_25 (by decide) ?_
      cases hf
      exact e_z hx hb hr hlk (Or.inl rfl) hW hS dX1_has_26
    · rw [if_neg c8] at hf
      refine lv_iload_n hx hb dX1_has_11 rfl (lv_at hl 2 rfl) ?_
      refine lv_aload_n hx hb dX1_has_12 rfl (lv_at hl 0 rfl) ?_
      refine gf_X1_9 hx hb hB hK hown hW hB_b dX1_has_13 ?_
      refine lv_iload_n hx hb dX1_has_16 rfl (lv_at hl 1 rfl) ?_
      obtain ⟨v17, e17, hf⟩ := ob2 hf
      refine r_iald hx hb hK hW (hB_b.l8 (by decide)) (cB_2 hB_b) e17 dX1_has_17 ?_
      refine lv_icmp_ge (tgt := 25) hx hb dX1_has_18 (by decide) (fun c18 => ?_) (fun c18 => ?_)
      · rw [if_pos c18] at hf
        refine lv_iconst (v := 0) hx hb dX1_has_25 (by decide) ?_
        cases hf
        exact e_z hx hb hr hlk (Or.inl rfl) hW hS dX1_has_26
      · rw [if_neg c18] at hf
        refine lv_iconst (v := 1) hx hb dX1_has_21 (by decide) ?_
        refine lv_goto (tgt := 26) hx hb dX1_has_22 (by decide) ?_
        cases hf
        exact e_z hx hb hr hlk (Or.inr rfl) hW hS dX1_has_26
def f_X1_sizeOf (b : Nat) (x : XS) (a0 : Int32) : Option (Int32) :=
    (f_X4_isKind a0).bind fun v1 =>
    if (v1 = 0 : Prop) then
      some 0
    else
      ((aget 4 (x (b + 2)) a0).bind fun v12 =>
      some v12)
set_option maxRecDepth 100000 in
set_option maxHeartbeats 4000000 in
theorem p_X1_sizeOf (l : Launch) (E : TE) {b : Nat} (hB_b : IsB b) (x m : XS) (g o : Int64) {a0 : Int32} {r : Int32} (hf : f_X1_sizeOf b x a0 = some r) : MG l E yX1_sizeOf cX1_sizeOf 2 (some .int) 1 [rf E (b + 1), .int a0] (Wd E x m g o) (Wd E x m g o) (some (.int r)) := by
  unfold f_X1_sizeOf at hf
  refine m_in (by decide) (Nat.le_of_ble_eq_true rfl) ?_
  intro p e s mi args below meth c H ls hx hb hr hlk hml hown hB hK hW hS hl
  have hl : lv_has ls 2 [(0, rf E (b + 1)), (1, .int a0)] := hl
  refine lv_iload_n hx hb dX1_sizeOf_0 rfl (lv_at hl 1 rfl) ?_
  obtain ⟨v1, e1, hf⟩ := ob2 hf
  refine c_SN (As := [.int a0]) (st1 := [.int v1]) (rest := []) (p_X4_isKind l E x m g o e1) (kc_X1_31 hB hK ⟨Nat.le_of_ble_eq_true rfl, Nat.le_of_ble_eq_true rfl⟩) hx hb hml hown hB hK hW hS ⟨Nat.le_refl 0, Nat.le_refl 0⟩ rfl hl.1 rfl (Nat.le_of_ble_eq_true rfl) rfl dX1_sizeOf_1 (fun H locs hW hS => ?_)
  refine lv_if_eq (tgt := 16) hx hb dX1_sizeOf_4 (by decide) (fun c4 => ?_) (fun c4 => ?_)
  · rw [if_pos c4] at hf
    refine lv_iconst (v := 0) hx hb dX1_sizeOf_16 (by decide) ?_
    cases hf
    exact e_i hx hb hr hlk hW hS dX1_sizeOf_17
  · rw [if_neg c4] at hf
    refine lv_aload_n hx hb dX1_sizeOf_7 rfl (lv_at hl 0 rfl) ?_
    refine gf_X1_9 hx hb hB hK hown hW hB_b dX1_sizeOf_8 ?_
    refine lv_iload_n hx hb dX1_sizeOf_11 rfl (lv_at hl 1 rfl) ?_
    obtain ⟨v12, e12, hf⟩ := ob2 hf
    refine r_iald hx hb hK hW (hB_b.l8 (by decide)) (cB_2 hB_b) e12 dX1_sizeOf_12 ?_
    refine lv_goto (tgt := 17) hx hb dX1_sizeOf_13 (by decide) ?_
    cases hf
    exact e_i hx hb hr hlk hW hS dX1_sizeOf_17
def f_X0_has (b : Nat) (x : XS) (a0 : Int32) : Option (Int32) :=
    if (a0 < 0 : Prop) then
      some 0
    else
      (if ((x (b + 7) 0) ≤ a0 : Prop) then
        some 0
      else
        some 1)
set_option maxRecDepth 100000 in
set_option maxHeartbeats 4000000 in
theorem p_X0_has (l : Launch) (E : TE) {b : Nat} (hB_b : IsB b) (x m : XS) (g o : Int64) {a0 : Int32} {r : Int32} (hf : f_X0_has b x a0 = some r) : MG l E yX0_has cX0_has 2 (some .boolean) 0 [rf E (b + 7), .int a0] (Wd E x m g o) (Wd E x m g o) (some (.int r)) := by
  unfold f_X0_has at hf
  refine m_in (by decide) (Nat.le_of_ble_eq_true rfl) ?_
  intro p e s mi args below meth c H ls hx hb hr hlk hml hown hB hK hW hS hl
  have hl : lv_has ls 2 [(0, rf E (b + 7)), (1, .int a0)] := hl
  refine lv_iload_n hx hb dX0_has_0 rfl (lv_at hl 1 rfl) ?_
  refine lv_if_lt (tgt := 16) hx hb dX0_has_1 (by decide) (fun c1 => ?_) (fun c1 => ?_)
  · rw [if_pos c1] at hf
    refine lv_iconst (v := 0) hx hb dX0_has_16 (by decide) ?_
    cases hf
    exact e_z hx hb hr hlk (Or.inl rfl) hW hS dX0_has_17
  · rw [if_neg c1] at hf
    refine lv_iload_n hx hb dX0_has_4 rfl (lv_at hl 1 rfl) ?_
    refine lv_aload_n hx hb dX0_has_5 rfl (lv_at hl 0 rfl) ?_
    refine gf_X0_39 hx hb hB hK hown hW hB_b dX0_has_6 ?_
    refine lv_icmp_ge (tgt := 16) hx hb dX0_has_9 (by decide) (fun c9 => ?_) (fun c9 => ?_)
    · rw [if_pos c9] at hf
      refine lv_iconst (v := 0) hx hb dX0_has_16 (by decide) ?_
      cases hf
      exact e_z hx hb hr hlk (Or.inl rfl) hW hS dX0_has_17
    · rw [if_neg c9] at hf
      refine lv_iconst (v := 1) hx hb dX0_has_12 (by decide) ?_
      refine lv_goto (tgt := 17) hx hb dX0_has_13 (by decide) ?_
      cases hf
      exact e_z hx hb hr hlk (Or.inr rfl) hW hS dX0_has_17
def f_X0_stageOf (b : Nat) (x : XS) (a0 : Int32) : Option (Int32) :=
    (f_X0_has b x a0).bind fun v2 =>
    if (v2 = 0 : Prop) then
      some (-1)
    else
      ((aget 24 (x (b + 11)) a0).bind fun v13 =>
      some v13)
set_option maxRecDepth 100000 in
set_option maxHeartbeats 4000000 in
theorem p_X0_stageOf (l : Launch) (E : TE) {b : Nat} (hB_b : IsB b) (x m : XS) (g o : Int64) {a0 : Int32} {r : Int32} (hf : f_X0_stageOf b x a0 = some r) : MG l E yX0_stageOf cX0_stageOf 2 (some .int) 1 [rf E (b + 7), .int a0] (Wd E x m g o) (Wd E x m g o) (some (.int r)) := by
  unfold f_X0_stageOf at hf
  refine m_in (by decide) (Nat.le_of_ble_eq_true rfl) ?_
  intro p e s mi args below meth c H ls hx hb hr hlk hml hown hB hK hW hS hl
  have hl : lv_has ls 2 [(0, rf E (b + 7)), (1, .int a0)] := hl
  refine lv_aload_n hx hb dX0_stageOf_0 rfl (lv_at hl 0 rfl) ?_
  refine lv_iload_n hx hb dX0_stageOf_1 rfl (lv_at hl 1 rfl) ?_
  obtain ⟨v2, e2, hf⟩ := ob2 hf
  refine c_V (As := [.int a0]) (st1 := [.int v2]) (rest := []) (p_X0_has l E hB_b x m g o e2) (kc_X0_47 hB ⟨Nat.le_of_ble_eq_true rfl, Nat.le_of_ble_eq_true rfl⟩) (Wd.rec hK hW (hB_b.l8 (j := 7) (by decide)) (cB_7 hB_b) (ci := 0) rfl) hx hb hml hown hB hK hW hS ⟨Nat.le_refl 0, Nat.le_refl 0⟩ rfl hl.1 rfl (Nat.le_of_ble_eq_true rfl) rfl dX0_stageOf_2 (fun H locs hW hS => ?_)
  refine lv_if_eq (tgt := 17) hx hb dX0_stageOf_5 (by decide) (fun c5 => ?_) (fun c5 => ?_)
  · rw [if_pos c5] at hf
    refine lv_iconst (v := (-1)) hx hb dX0_stageOf_17 (by decide) ?_
    cases hf
    exact e_i hx hb hr hlk hW hS dX0_stageOf_18
  · rw [if_neg c5] at hf
    refine lv_aload_n hx hb dX0_stageOf_8 rfl (lv_at hl 0 rfl) ?_
    refine gf_X0_21 hx hb hB hK hown hW hB_b dX0_stageOf_9 ?_
    refine lv_iload_n hx hb dX0_stageOf_12 rfl (lv_at hl 1 rfl) ?_
    obtain ⟨v13, e13, hf⟩ := ob2 hf
    refine r_iald hx hb hK hW (hB_b.l8 (by decide)) (cB_11 hB_b) e13 dX0_stageOf_13 ?_
    refine lv_goto (tgt := 18) hx hb dX0_stageOf_14 (by decide) ?_
    cases hf
    exact e_i hx hb hr hlk hW hS dX0_stageOf_18
def f_X0_inStage_24 (b : Nat) (x : XS) (k4 : Int32 → Int32 → Int32 → Option (Int32)) (l1_24 : Int32) (l2_24 : Int32) (l3_24 : Int32) : Option (Int32) :=
    (some (l3_24 + 1)).bind fun v24 =>
    k4 l1_24 l2_24 v24
def f_X0_inStage_4 (b : Nat) (x : XS) : Nat → Int32 → Int32 → Int32 → Option (Int32)
  | 0, _, _, _ => none
  | n4 + 1, l1_4, l2_4, l3_4 =>
    if ((x (b + 7) 0) ≤ l3_4 : Prop) then
      some l2_4
    else
      ((f_X0_stageOf b x l3_4).bind fun v14 =>
      if (v14 = l1_4 : Prop) then
        ((some (l2_4 + 1)).bind fun v21 =>
        f_X0_inStage_24 b x (f_X0_inStage_4 b x n4) l1_4 v21 l3_4)
      else
        f_X0_inStage_24 b x (f_X0_inStage_4 b x n4) l1_4 l2_4 l3_4)
def f_X0_inStage (b : Nat) (x : XS) (a0 : Int32) : Option (Int32) :=
    f_X0_inStage_4 b x 4096 a0 0 0
set_option maxRecDepth 100000 in
set_option maxHeartbeats 4000000 in
theorem p_X0_inStage (l : Launch) (E : TE) {b : Nat} (hB_b : IsB b) (x m : XS) (g o : Int64) {a0 : Int32} {r : Int32} (hf : f_X0_inStage b x a0 = some r) : MG l E yX0_inStage cX0_inStage 4 (some .int) 2 [rf E (b + 7), .int a0] (Wd E x m g o) (Wd E x m g o) (some (.int r)) := by
  unfold f_X0_inStage at hf
  refine m_in (by decide) (Nat.le_of_ble_eq_true rfl) ?_
  intro p e s mi args below meth c H ls hx hb hr hlk hml hown hB hK hW hS hl
  have hl : lv_has ls 4 [(0, rf E (b + 7)), (1, .int a0)] := hl
  have J4 : ∀ (n4 : Nat), ∀ (l1_4 : Int32) (l2_4 : Int32) (l3_4 : Int32) (H : Heap) (locs : List Loc) (ls : Array Slot), f_X0_inStage_4 b x n4 l1_4 l2_4 l3_4 = some r → Wd E x m g o H → va_S (Ah E) s.heap H locs → lv_has ls 4 [(0, rf E (b + 7)), (1, .int l1_4), (2, .int l2_4), (3, .int l3_4)] → W p l e (rmH 2) s mi args below meth c H locs 0 0 (EQ E below args s (Wd E x m g o) (some (.int r))) (F0 mi 4 ls []) := by
    intro n4
    induction n4 with
    | zero => intro l1_4 l2_4 l3_4 H locs ls hf; exact absurd hf (fun z => nomatch (show (none : Option (Int32)) = some _ from z))
    | succ n4 ih4 =>
      intro l1_4 l2_4 l3_4 H locs ls hf hW hS hl
      rw [f_X0_inStage_4.eq_2] at hf
      have J24 : ∀ (l1_24 : Int32) (l2_24 : Int32) (l3_24 : Int32) (H : Heap) (locs : List Loc) (ls : Array Slot), f_X0_inStage_24 b x (f_X0_inStage_4 b x n4) l1_24 l2_24 l3_24 = some r → Wd E x m g o H → va_S (Ah E) s.heap H locs → lv_has ls 4 [(0, rf E (b + 7)), (1, .int l1_24), (2, .int l2_24), (3, .int l3_24)] → W p l e (rmH 2) s mi args below meth c H locs 0 0 (EQ E below args s (Wd E x m g o) (some (.int r))) (F0 mi 24 ls []) := by
        intro l1_24 l2_24 l3_24 H locs ls hf hW hS hl
        unfold f_X0_inStage_24 at hf
        obtain ⟨v24, e24, hf⟩ := ob hf
        refine lv_iinc (v := v24) (lv' := [(3, .int v24), (0, rf E (b + 7)), (1, .int l1_24), (2, .int l2_24)]) hx hb dX0_inStage_24 hl (k := 3) rfl (by rw [e24]; rfl) (by decide) rfl (fun ls hl => ?_)
        refine lv_goto (tgt := 4) hx hb dX0_inStage_27 (by decide) ?_
        exact ih4 l1_24 l2_24 v24 _ _ _ hf hW hS (lv_sub hl [1, 2, 3, 0] rfl)
      refine lv_iload_n hx hb dX0_inStage_4 rfl (lv_at hl 3 rfl) ?_
      refine lv_aload_n hx hb dX0_inStage_5 rfl (lv_at hl 0 rfl) ?_
      refine gf_X0_39 hx hb hB hK hown hW hB_b dX0_inStage_6 ?_
      refine lv_icmp_ge (tgt := 30) hx hb dX0_inStage_9 (by decide) (fun c9 => ?_) (fun c9 => ?_)
      · rw [if_pos c9] at hf
        refine lv_iload_n hx hb dX0_inStage_30 rfl (lv_at hl 2 rfl) ?_
        cases hf
        exact e_i hx hb hr hlk hW hS dX0_inStage_31
      · rw [if_neg c9] at hf
        refine lv_aload_n hx hb dX0_inStage_12 rfl (lv_at hl 0 rfl) ?_
        refine lv_iload_n hx hb dX0_inStage_13 rfl (lv_at hl 3 rfl) ?_
        obtain ⟨v14, e14, hf⟩ := ob2 hf
        refine c_V (As := [.int l3_4]) (st1 := [.int v14]) (rest := []) (p_X0_stageOf l E hB_b x m g o e14) (kc_X0_51 hB ⟨Nat.le_of_ble_eq_true rfl, Nat.le_of_ble_eq_true rfl⟩) (Wd.rec hK hW (hB_b.l8 (j := 7) (by decide)) (cB_7 hB_b) (ci := 0) rfl) hx hb hml hown hB hK hW hS ⟨Nat.le_refl 0, Nat.le_refl 0⟩ rfl hl.1 rfl (Nat.le_of_ble_eq_true rfl) rfl dX0_inStage_14 (fun H locs hW hS => ?_)
        refine lv_iload_n hx hb dX0_inStage_17 rfl (lv_at hl 1 rfl) ?_
        refine lv_icmp_ne (tgt := 24) hx hb dX0_inStage_18 (by decide) (fun c18 => ?_) (fun c18 => ?_)
        · rw [if_neg c18] at hf
          exact J24 l1_4 l2_4 l3_4 _ _ _ hf hW hS (lv_sub hl [0, 1, 2, 3] rfl)
        · rw [if_pos c18] at hf
          obtain ⟨v21, e21, hf⟩ := ob hf
          refine lv_iinc (v := v21) (lv' := [(2, .int v21), (0, rf E (b + 7)), (1, .int l1_4), (3, .int l3_4)]) hx hb dX0_inStage_21 hl (k := 2) rfl (by rw [e21]; rfl) (by decide) rfl (fun ls hl => ?_)
          exact J24 l1_4 v21 l3_4 _ _ _ hf hW hS (lv_sub hl [1, 2, 0, 3] rfl)
  refine lv_iconst (v := 0) hx hb dX0_inStage_0 (by decide) ?_
  refine lv_istore_n (lv' := [(2, .int 0), (0, rf E (b + 7)), (1, .int a0)]) hx hb dX0_inStage_1 rfl hl (by decide) rfl (fun ls hl => ?_)
  refine lv_iconst (v := 0) hx hb dX0_inStage_2 (by decide) ?_
  refine lv_istore_n (lv' := [(3, .int 0), (2, .int 0), (0, rf E (b + 7)), (1, .int a0)]) hx hb dX0_inStage_3 rfl hl (by decide) rfl (fun ls hl => ?_)
  exact J4 4096 a0 0 0 _ _ _ hf hW hS (lv_sub hl [2, 3, 1, 0] rfl)
def f_X0_add (b : Nat) (x : XS) (a0 : Int32) (a1 : Int32) (a2 : Int32) : Option (Int32 × XS) :=
    if ((x (b + 7) 0) < 24 : Prop) then
      ((some ((x (b + 7) 0))).bind fun v15 =>
      (aset x (b + 8) 24 v15 a0).bind fun x24 =>
      (aset x24 (b + 9) 24 v15 a1).bind fun x32 =>
      (aset x32 (b + 10) 24 v15 a2).bind fun x40 =>
      (aset x40 (b + 11) 24 v15 0).bind fun x48 =>
      (aset x48 (b + 12) 24 v15 (-1)).bind fun x56 =>
      (aset x56 (b + 13) 24 v15 0).bind fun x64 =>
      (aset x64 (b + 14) 24 v15 (-1)).bind fun x72 =>
      (aset x72 (b + 15) 24 v15 (-1)).bind fun x80 =>
      (aset x80 (b + 16) 24 v15 (-1)).bind fun x88 =>
      (some (ux x88 (b + 7) 0 (v15 + 1))).bind fun x94 =>
      some (v15, x94))
    else
      some ((-1), x)
set_option maxRecDepth 100000 in
set_option maxHeartbeats 4000000 in
theorem p_X0_add (l : Launch) (E : TE) {b : Nat} (hB_b : IsB b) (x m : XS) (g o : Int64) {a0 : Int32} {a1 : Int32} {a2 : Int32} {r : Int32} {xr : XS} (hf : f_X0_add b x a0 a1 a2 = some (r, xr)) : MG l E yX0_add cX0_add 5 (some .int) 0 [rf E (b + 7), .int a0, .int a1, .int a2] (Wd E x m g o) (Wd E xr m g o) (some (.int r)) := by
  unfold f_X0_add at hf
  refine m_in (by decide) (Nat.le_of_ble_eq_true rfl) ?_
  intro p e s mi args below meth c H ls hx hb hr hlk hml hown hB hK hW hS hl
  have hl : lv_has ls 5 [(0, rf E (b + 7)), (1, .int a0), (2, .int a1), (3, .int a2)] := hl
  refine lv_aload_n hx hb dX0_add_0 rfl (lv_at hl 0 rfl) ?_
  refine gf_X0_39 hx hb hB hK hown hW hB_b dX0_add_1 ?_
  refine lv_bipush (v := 24) hx hb dX0_add_4 (by decide) ?_
  refine lv_icmp_lt (tgt := 11) hx hb dX0_add_6 (by decide) (fun c6 => ?_) (fun c6 => ?_)
  · rw [if_pos c6] at hf
    refine lv_aload_n hx hb dX0_add_11 rfl (lv_at hl 0 rfl) ?_
    refine gf_X0_39 hx hb hB hK hown hW hB_b dX0_add_12 ?_
    obtain ⟨v15, e15, hf⟩ := ob hf
    refine lv_nm e15 ?_
    refine lv_istore (lv' := [(4, .int v15), (0, rf E (b + 7)), (1, .int a0), (2, .int a1), (3, .int a2)]) hx hb dX0_add_15 hl (by decide) rfl (fun ls hl => ?_)
    refine lv_aload_n hx hb dX0_add_17 rfl (lv_at hl 1 rfl) ?_
    refine gf_X0_9 hx hb hB hK hown hW hB_b dX0_add_18 ?_
    refine lv_iload hx hb dX0_add_21 (lv_at hl 0 rfl) ?_
    refine lv_iload_n hx hb dX0_add_23 rfl (lv_at hl 2 rfl) ?_
    obtain ⟨x24, e24, hf⟩ := ob2 hf
    refine r_iastX hx hb hK hW hS (hB_b.lt (by decide)) (fun _ => cB_8 hB_b) e24 dX0_add_24 (fun H locs hW hS => ?_)
    refine lv_aload_n hx hb dX0_add_25 rfl (lv_at hl 1 rfl) ?_
    refine gf_X0_15 hx hb hB hK hown hW hB_b dX0_add_26 ?_
    refine lv_iload hx hb dX0_add_29 (lv_at hl 0 rfl) ?_
    refine lv_iload_n hx hb dX0_add_31 rfl (lv_at hl 3 rfl) ?_
    obtain ⟨x32, e32, hf⟩ := ob2 hf
    refine r_iastX hx hb hK hW hS (hB_b.lt (by decide)) (fun _ => cB_9 hB_b) e32 dX0_add_32 (fun H locs hW hS => ?_)
    refine lv_aload_n hx hb dX0_add_33 rfl (lv_at hl 1 rfl) ?_
    refine gf_X0_18 hx hb hB hK hown hW hB_b dX0_add_34 ?_
    refine lv_iload hx hb dX0_add_37 (lv_at hl 0 rfl) ?_
    refine lv_iload_n hx hb dX0_add_39 rfl (lv_at hl 4 rfl) ?_
    obtain ⟨x40, e40, hf⟩ := ob2 hf
    refine r_iastX hx hb hK hW hS (hB_b.lt (by decide)) (fun _ => cB_10 hB_b) e40 dX0_add_40 (fun H locs hW hS => ?_)
    refine lv_aload_n hx hb dX0_add_41 rfl (lv_at hl 1 rfl) ?_
    refine gf_X0_21 hx hb hB hK hown hW hB_b dX0_add_42 ?_
    refine lv_iload hx hb dX0_add_45 (lv_at hl 0 rfl) ?_
    refine lv_iconst (v := 0) hx hb dX0_add_47 (by decide) ?_
    obtain ⟨x48, e48, hf⟩ := ob2 hf
    refine r_iastX hx hb hK hW hS (hB_b.lt (by decide)) (fun _ => cB_11 hB_b) e48 dX0_add_48 (fun H locs hW hS => ?_)
    refine lv_aload_n hx hb dX0_add_49 rfl (lv_at hl 1 rfl) ?_
    refine gf_X0_24 hx hb hB hK hown hW hB_b dX0_add_50 ?_
    refine lv_iload hx hb dX0_add_53 (lv_at hl 0 rfl) ?_
    refine lv_iconst (v := (-1)) hx hb dX0_add_55 (by decide) ?_
    obtain ⟨x56, e56, hf⟩ := ob2 hf
    refine r_iastX hx hb hK hW hS (hB_b.lt (by decide)) (fun _ => cB_12 hB_b) e56 dX0_add_56 (fun H locs hW hS => ?_)
    refine lv_aload_n hx hb dX0_add_57 rfl (lv_at hl 1 rfl) ?_
    refine gf_X0_27 hx hb hB hK hown hW hB_b dX0_add_58 ?_
    refine lv_iload hx hb dX0_add_61 (lv_at hl 0 rfl) ?_
    refine lv_iconst (v := 0) hx hb dX0_add_63 (by decide) ?_
    obtain ⟨x64, e64, hf⟩ := ob2 hf
    refine r_iastX hx hb hK hW hS (hB_b.lt (by decide)) (fun _ => cB_13 hB_b) e64 dX0_add_64 (fun H locs hW hS => ?_)
    refine lv_aload_n hx hb dX0_add_65 rfl (lv_at hl 1 rfl) ?_
    refine gf_X0_30 hx hb hB hK hown hW hB_b dX0_add_66 ?_
    refine lv_iload hx hb dX0_add_69 (lv_at hl 0 rfl) ?_
    refine lv_iconst (v := (-1)) hx hb dX0_add_71 (by decide) ?_
    obtain ⟨x72, e72, hf⟩ := ob2 hf
    refine r_iastX hx hb hK hW hS (hB_b.lt (by decide)) (fun _ => cB_14 hB_b) e72 dX0_add_72 (fun H locs hW hS => ?_)
    refine lv_aload_n hx hb dX0_add_73 rfl (lv_at hl 1 rfl) ?_
    refine gf_X0_33 hx hb hB hK hown hW hB_b dX0_add_74 ?_
    refine lv_iload hx hb dX0_add_77 (lv_at hl 0 rfl) ?_
    refine lv_iconst (v := (-1)) hx hb dX0_add_79 (by decide) ?_
    obtain ⟨x80, e80, hf⟩ := ob2 hf
    refine r_iastX hx hb hK hW hS (hB_b.lt (by decide)) (fun _ => cB_15 hB_b) e80 dX0_add_80 (fun H locs hW hS => ?_)
    refine lv_aload_n hx hb dX0_add_81 rfl (lv_at hl 1 rfl) ?_
    refine gf_X0_36 hx hb hB hK hown hW hB_b dX0_add_82 ?_
    refine lv_iload hx hb dX0_add_85 (lv_at hl 0 rfl) ?_
    refine lv_iconst (v := (-1)) hx hb dX0_add_87 (by decide) ?_
    obtain ⟨x88, e88, hf⟩ := ob2 hf
    refine r_iastX hx hb hK hW hS (hB_b.lt (by decide)) (fun _ => cB_16 hB_b) e88 dX0_add_88 (fun H locs hW hS => ?_)
    refine lv_aload_n hx hb dX0_add_89 rfl (lv_at hl 1 rfl) ?_
    refine lv_iload hx hb dX0_add_90 (lv_at hl 0 rfl) ?_
    refine lv_iconst (v := 1) hx hb dX0_add_92 (by decide) ?_
    refine lv_iadd hx hb dX0_add_93 ?_
    obtain ⟨x94, e94, hf⟩ := ob hf
    refine pf_X0_39 hx hb hB hK hown hW hS hB_b e94 dX0_add_94 (fun H locs hW hS => ?_)
    refine lv_iload hx hb dX0_add_97 (lv_at hl 0 rfl) ?_
    cases hf
    exact e_i hx hb hr hlk hW hS dX0_add_99
  · rw [if_neg c6] at hf
    refine lv_iconst (v := (-1)) hx hb dX0_add_9 (by decide) ?_
    cases hf
    exact e_i hx hb hr hlk hW hS dX0_add_10
