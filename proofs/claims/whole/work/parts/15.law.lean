section LAWK
variable {p : Program} {l : Launch} {e : Env} {s : State} {mi : MethodId} {args : Array Value} {below : List Frame} {meth : Method} {c : Code} {H : Heap} {locs : List Loc} {cells slots : Nat} {Q : State → Prop} {ls : Array Slot}
theorem r_scr {R : Room} {pc : Nat} {rest : List Value} {cc : ByteArray} {b L : Nat} {xs : Nat → Int32} {E : TE} (hx : p.tables.exec = Jvm.exec) (hb : c.code = cc) (hX : va_X b L xs s s.heap) (hbl : b < s.heap.size) (hbA : ¬ Ah E b) (hS : va_S (Ah E) s.heap H locs) (hL : L ≤ 2560) {k : Nat} (hk : k < L) (hdg : decode cc pc = .ok (.iaload, 1))
    (kk : W p l e R s mi args below meth c H locs cells slots Q (F0 mi (pc + 1) ls (.int (xs k) :: rest))) : W p l e R s mi args below meth c H locs cells slots Q (F0 mi pc ls (.int (nI k) :: .ref b :: rest)) := by
  refine va_sld hx hb hX hbl hbA hS (vp_in_nI hk (by omega)) hdg ?_
  rw [nI_clamp (by omega)]
  exact kk
end LAWK
theorem kS_W {R : Room} {s : State} {args : Array Value} {own : String} {index k d n : Nat} {y : MethodName} {b : ByteArray} {hh : List (Nat × Nat × Nat × Nat)} (hB : ∀ w ∈ BG, w.before args s = true) (hcode : Cond.codeWith y b n (some .int) hh ∈ BG) (hini : Cond.initialized y.cls ∈ BG) (hl : Cond.methodLink own index y ∈ BG) (hst : Cond.static y ∈ BG) (hd : y.cls ≠ "java/lang/invoke/MethodHandle" ∧ y.cls ≠ "java/lang/invoke/VarHandle" ∧ (parseMethodDescriptor y.desc).map (fun d => d.parameters.length) = some k) (hR : (rmT d).frames + 1 ≤ R.frames ∧ 8 + (n + 11) + (rmT d).locals ≤ R.locals) :
    vx_CSW R s args own index y b n (some .int) hh (wsW y b n hh) (rmT d) 1 6 k := by
  have hc : Cond.codeWith y b n (some .int) hh ∈ wsW y b n hh := List.mem_cons_self
  refine ⟨⟨rfl, rfl, hR.1, hR.2, pay_in hB (wsW_good hcode), hc⟩, hB _ hcode, hB _ hini, ⟨hd.1, hd.2.1⟩, fun sig h => ?_, hB _ hl, hB _ hst⟩
  have h2 := hd.2.2
  rw [h] at h2
  exact (Option.some.inj h2).symm
theorem c_SW {p : Program} {l : Launch} {e : Env} {R : Room} {s : State} {mi : MethodId} {args : Array Value} {below : List Frame} {meth : Method} {c : Code} {H : Heap} {locs : List Loc} {cells slots : Nat} {Q : State → Prop} {cc : ByteArray} {pc : Nat} {ls : Array Slot} {rest : List Value} {E : TE} {y : MethodName} {b : ByteArray} {n nL d k : Nat} {hh : List (Nat × Nat × Nat × Nat)} {As st0 st1 : List Value} {W0 W1 : Heap → Prop} {r : Option Value} {own : String} {index : Nat}
    (hM : MW l E y b n hh d As W0 W1 r) (cw : vx_CSW R s args own index y b n (some .int) hh (wsW y b n hh) (rmT d) 1 6 k) (hx : p.tables.exec = Jvm.exec) (hb : c.code = cc) (hml : c.maxLocals = nL) (hown : s.vm.findClass own = some mi.cls) (hB : ∀ w ∈ BG, w.before args s = true) (hK : Ks E s) (hW : W0 H) (hS : va_S (Ah E) s.heap H locs) (hc : cells + 1 ≤ R.cells ∧ slots + 6 ≤ R.slots) (hn : As.length = k) (hsize : ls.size = nL) (hst : st0 = As.reverse ++ rest) (hroom : (rest.map fun v => v.category).sum ≤ 8) (h1 : r.toList ++ rest = st1) (hdg : decode cc pc = .ok (.invokestatic index, 3))
    (kk : ∀ (H1 : Heap) (locs1 : List Loc), W1 H1 → va_S (Ah E) s.heap H1 locs1 → W p l e R s mi args below meth c H1 locs1 (cells + 1) (slots + 6) Q (F0 mi (pc + 3) ls st1)) : W p l e R s mi args below meth c H locs cells slots Q (F0 mi pc ls st0) := by
  subst h1
  have hr := vx_runSW (Ts := BG) (g := F0 mi pc ls st0) (H := H) (locs := locs) (cells := cells) (slots := slots) (below := below) (meth := meth) (e := e) ⟨hx, hb, hml, hown, hB⟩ hM cw ⟨pc_blind, pc_go hK hS hW⟩ rfl hn hsize hst (lv_room hroom) hdg hc
  intro T hT X
  obtain ⟨v, st₀, t, T', L, h0, X', hL, e1, e2, ⟨hv, hw, hz, hk⟩, st⟩ := hr T hT X
  cases hv
  rw [h0] at hz hk
  obtain ⟨t2, a1, b1⟩ := kk T'.heap (locs ++ L) (by rw [e1]; exact hw)
    ⟨Nat.le_trans hS.1 (by rw [e1]; exact hz), fun q h1 h2 => by rw [e1, hk q (Nat.lt_of_lt_of_le h1 hS.1) h2]; exact hS.2.1 q h1 h2, fun q hq => by
      rcases List.mem_append.mp hq with h | h
      · exact hS.2.2 q h
      · exact hL q h⟩ T' rfl X'
  exact ⟨t2, st t2 a1, b1⟩
theorem q_57 : Cond.initialized RL ∈ BG := bg 57 (by decide +kernel) rfl
theorem q_241 : Cond.methodLink RL 130 yX4_clearBuffer ∈ BG := bg 241 (by decide +kernel) rfl
theorem q_242 : Cond.instanceMethod yX4_clearBuffer ∈ BG := bg 242 (by decide +kernel) rfl
theorem q_243 : Cond.selects RX4 yX4_clearBuffer yX4_clearBuffer ∈ BG := bg 243 (by decide +kernel) rfl
theorem q_244 : Cond.code yX4_clearBuffer cX4_clearBuffer 2 (some .int) ∈ BG := bg 244 (by decide +kernel) rfl
theorem q_245 : Cond.methodLink RL 134 yX4_firstError ∈ BG := bg 245 (by decide +kernel) rfl
theorem q_259 : Cond.methodLink RL 174 yX4_monthsToEqual ∈ BG := bg 259 (by decide +kernel) rfl
theorem q_357 : Cond.methodLink RL 178 yX4_followShare ∈ BG := bg 357 (by decide +kernel) rfl
theorem q_382 : Cond.methodLink RL 183 yX4_digest ∈ BG := bg 382 (by decide +kernel) rfl
theorem q_383 : Cond.instanceMethod yX4_digest ∈ BG := bg 383 (by decide +kernel) rfl
theorem q_384 : Cond.selects RX4 yX4_digest yX4_digest ∈ BG := bg 384 (by decide +kernel) rfl
theorem q_385 : Cond.code yX4_digest cX4_digest 5 (some .long) ∈ BG := bg 385 (by decide +kernel) rfl
theorem q_701 : Cond.methodLink RL 90 yL_offer ∈ BG := bg 701 (by decide +kernel) rfl
theorem q_702 : Cond.static yL_offer ∈ BG := bg 702 (by decide +kernel) rfl
theorem q_703 : Cond.codeWith yL_offer cL_offer 7 (some .int) [(0, 14, 17, 13), (0, 14, 21, 15), (0, 14, 25, 17)] ∈ BG := bg 703 (by decide +kernel) rfl
theorem q_741 : Cond.methodLink RL 99 yL_takeOff ∈ BG := bg 741 (by decide +kernel) rfl
theorem q_742 : Cond.static yL_takeOff ∈ BG := bg 742 (by decide +kernel) rfl
theorem q_743 : Cond.codeWith yL_takeOff cL_takeOff 5 (some .int) [(0, 10, 13, 13), (0, 10, 17, 17)] ∈ BG := bg 743 (by decide +kernel) rfl
theorem q_754 : Cond.methodLink RL 103 yL_base ∈ BG := bg 754 (by decide +kernel) rfl
theorem q_755 : Cond.static yL_base ∈ BG := bg 755 (by decide +kernel) rfl
theorem q_756 : Cond.codeWith yL_base cL_base 5 (some .int) [(0, 10, 13, 13), (0, 10, 17, 15)] ∈ BG := bg 756 (by decide +kernel) rfl
theorem q_766 : Cond.methodLink RL 106 yL_set ∈ BG := bg 766 (by decide +kernel) rfl
theorem q_767 : Cond.static yL_set ∈ BG := bg 767 (by decide +kernel) rfl
theorem q_768 : Cond.codeWith yL_set cL_set 5 (some .int) [(0, 10, 13, 13), (0, 10, 17, 15)] ∈ BG := bg 768 (by decide +kernel) rfl
theorem q_784 : Cond.methodLink RL 109 yL_complain ∈ BG := bg 784 (by decide +kernel) rfl
theorem q_785 : Cond.static yL_complain ∈ BG := bg 785 (by decide +kernel) rfl
theorem q_786 : Cond.codeWith yL_complain cL_complain 6 (some .int) [(0, 12, 15, 13), (0, 12, 19, 15), (0, 12, 23, 17)] ∈ BG := bg 786 (by decide +kernel) rfl
theorem q_795 : Cond.methodLink RL 113 yL_decide ∈ BG := bg 795 (by decide +kernel) rfl
theorem q_796 : Cond.static yL_decide ∈ BG := bg 796 (by decide +kernel) rfl
theorem q_797 : Cond.codeWith yL_decide cL_decide 6 (some .int) [(0, 12, 15, 13), (0, 12, 19, 15), (0, 12, 23, 17)] ∈ BG := bg 797 (by decide +kernel) rfl
theorem q_814 : Cond.methodLink RL 116 yL_appeal ∈ BG := bg 814 (by decide +kernel) rfl
theorem q_815 : Cond.static yL_appeal ∈ BG := bg 815 (by decide +kernel) rfl
theorem q_816 : Cond.codeWith yL_appeal cL_appeal 4 (some .int) [(0, 9, 12, 13), (0, 9, 15, 17)] ∈ BG := bg 816 (by decide +kernel) rfl
theorem q_826 : Cond.methodLink RL 120 yL_judge ∈ BG := bg 826 (by decide +kernel) rfl
theorem q_827 : Cond.static yL_judge ∈ BG := bg 827 (by decide +kernel) rfl
theorem q_828 : Cond.codeWith yL_judge cL_judge 5 (some .int) [(0, 10, 13, 13), (0, 10, 17, 17)] ∈ BG := bg 828 (by decide +kernel) rfl
theorem q_833 : Cond.methodLink RL 123 yL_closeMonth ∈ BG := bg 833 (by decide +kernel) rfl
theorem q_834 : Cond.static yL_closeMonth ∈ BG := bg 834 (by decide +kernel) rfl
theorem q_835 : Cond.codeWith yL_closeMonth cL_closeMonth 3 (some .int) [(0, 8, 11, 17)] ∈ BG := bg 835 (by decide +kernel) rfl
theorem q_840 : Cond.methodLink RL 127 yL_append ∈ BG := bg 840 (by decide +kernel) rfl
theorem q_841 : Cond.static yL_append ∈ BG := bg 841 (by decide +kernel) rfl
theorem q_842 : Cond.codeWith yL_append cL_append 4 (some .int) [(0, 9, 12, 15), (0, 9, 15, 17)] ∈ BG := bg 842 (by decide +kernel) rfl
theorem q_847 : Cond.methodLink RL 138 yL_complainAll ∈ BG := bg 847 (by decide +kernel) rfl
theorem q_848 : Cond.static yL_complainAll ∈ BG := bg 848 (by decide +kernel) rfl
theorem q_849 : Cond.codeWith yL_complainAll cL_complainAll 3 (some .int) [(0, 8, 11, 15), (0, 8, 14, 17)] ∈ BG := bg 849 (by decide +kernel) rfl
theorem q_859 : Cond.methodLink RL 141 yL_undo ∈ BG := bg 859 (by decide +kernel) rfl
theorem q_860 : Cond.static yL_undo ∈ BG := bg 860 (by decide +kernel) rfl
theorem q_861 : Cond.codeWith yL_undo cL_undo 3 (some .int) [(0, 8, 11, 17)] ∈ BG := bg 861 (by decide +kernel) rfl
theorem q_866 : Cond.methodLink RL 144 yL_complaint ∈ BG := bg 866 (by decide +kernel) rfl
theorem q_867 : Cond.static yL_complaint ∈ BG := bg 867 (by decide +kernel) rfl
theorem q_868 : Cond.codeWith yL_complaint cL_complaint 5 (some .int) [(0, 10, 13, 13), (0, 10, 17, 15)] ∈ BG := bg 868 (by decide +kernel) rfl
theorem q_870 : Cond.methodLink RL 147 yL_amends ∈ BG := bg 870 (by decide +kernel) rfl
theorem q_871 : Cond.static yL_amends ∈ BG := bg 871 (by decide +kernel) rfl
theorem q_872 : Cond.codeWith yL_amends cL_amends 6 (some .int) [(0, 12, 15, 13), (0, 12, 19, 15)] ∈ BG := bg 872 (by decide +kernel) rfl
theorem q_874 : Cond.methodLink RL 150 yL_precedent ∈ BG := bg 874 (by decide +kernel) rfl
theorem q_875 : Cond.static yL_precedent ∈ BG := bg 875 (by decide +kernel) rfl
theorem q_876 : Cond.codeWith yL_precedent cL_precedent 6 (some .int) [(0, 12, 15, 13), (0, 12, 19, 15)] ∈ BG := bg 876 (by decide +kernel) rfl
theorem q_878 : Cond.methodLink RL 153 yL_kind ∈ BG := bg 878 (by decide +kernel) rfl
theorem q_879 : Cond.static yL_kind ∈ BG := bg 879 (by decide +kernel) rfl
theorem q_880 : Cond.codeWith yL_kind cL_kind 5 (some .int) [(0, 10, 13, 13), (0, 10, 17, 15)] ∈ BG := bg 880 (by decide +kernel) rfl
theorem q_882 : Cond.methodLink RL 156 yL_count ∈ BG := bg 882 (by decide +kernel) rfl
theorem q_883 : Cond.static yL_count ∈ BG := bg 883 (by decide +kernel) rfl
theorem q_884 : Cond.codeWith yL_count cL_count 4 (some .int) [(0, 9, 12, 15)] ∈ BG := bg 884 (by decide +kernel) rfl
theorem q_886 : Cond.methodLink RL 159 yL_setting ∈ BG := bg 886 (by decide +kernel) rfl
theorem q_887 : Cond.static yL_setting ∈ BG := bg 887 (by decide +kernel) rfl
theorem q_888 : Cond.codeWith yL_setting cL_setting 4 (some .int) [(0, 9, 12, 13)] ∈ BG := bg 888 (by decide +kernel) rfl
theorem q_890 : Cond.methodLink RL 162 yL_ofCustomer ∈ BG := bg 890 (by decide +kernel) rfl
theorem q_891 : Cond.static yL_ofCustomer ∈ BG := bg 891 (by decide +kernel) rfl
theorem q_892 : Cond.codeWith yL_ofCustomer cL_ofCustomer 5 (some .int) [(0, 10, 13, 13), (0, 10, 17, 15)] ∈ BG := bg 892 (by decide +kernel) rfl
theorem q_894 : Cond.methodLink RL 165 yL_whyNot ∈ BG := bg 894 (by decide +kernel) rfl
theorem q_895 : Cond.static yL_whyNot ∈ BG := bg 895 (by decide +kernel) rfl
theorem q_896 : Cond.codeWith yL_whyNot cL_whyNot 6 (some .int) [(0, 12, 15, 13), (0, 12, 19, 15)] ∈ BG := bg 896 (by decide +kernel) rfl
theorem q_898 : Cond.methodLink RL 168 yL_fair ∈ BG := bg 898 (by decide +kernel) rfl
theorem q_899 : Cond.static yL_fair ∈ BG := bg 899 (by decide +kernel) rfl
theorem q_900 : Cond.codeWith yL_fair cL_fair 4 (some .int) [(0, 9, 12, 13)] ∈ BG := bg 900 (by decide +kernel) rfl
theorem q_902 : Cond.methodLink RL 171 yL_ifJudged ∈ BG := bg 902 (by decide +kernel) rfl
theorem q_903 : Cond.static yL_ifJudged ∈ BG := bg 903 (by decide +kernel) rfl
theorem q_904 : Cond.codeWith yL_ifJudged cL_ifJudged 6 (some .int) [(0, 12, 15, 13), (0, 12, 19, 15)] ∈ BG := bg 904 (by decide +kernel) rfl
theorem q_952 : Cond.methodLink RL 96 yX5_thrown ∈ BG := bg 952 (by decide +kernel) rfl
theorem q_953 : Cond.instanceMethod yX5_thrown ∈ BG := bg 953 (by decide +kernel) rfl
theorem q_954 : Cond.selects RX5 yX5_thrown yX5_thrown ∈ BG := bg 954 (by decide +kernel) rfl
theorem q_955 : Cond.code yX5_thrown cX5_thrown 1 (some .int) ∈ BG := bg 955 (by decide +kernel) rfl
theorem q_956 : Cond.methodLink RL 95 yX5_offer ∈ BG := bg 956 (by decide +kernel) rfl
theorem q_957 : Cond.instanceMethod yX5_offer ∈ BG := bg 957 (by decide +kernel) rfl
theorem q_958 : Cond.selects RX5 yX5_offer yX5_offer ∈ BG := bg 958 (by decide +kernel) rfl
theorem q_959 : Cond.code yX5_offer cX5_offer 6 (some .int) ∈ BG := bg 959 (by decide +kernel) rfl
theorem q_977 : Cond.methodLink RL 102 yX5_takeOff ∈ BG := bg 977 (by decide +kernel) rfl
theorem q_978 : Cond.instanceMethod yX5_takeOff ∈ BG := bg 978 (by decide +kernel) rfl
theorem q_979 : Cond.selects RX5 yX5_takeOff yX5_takeOff ∈ BG := bg 979 (by decide +kernel) rfl
theorem q_980 : Cond.code yX5_takeOff cX5_takeOff 3 (some .int) ∈ BG := bg 980 (by decide +kernel) rfl
theorem q_993 : Cond.methodLink RL 105 yX5_base ∈ BG := bg 993 (by decide +kernel) rfl
theorem q_994 : Cond.instanceMethod yX5_base ∈ BG := bg 994 (by decide +kernel) rfl
theorem q_995 : Cond.selects RX5 yX5_base yX5_base ∈ BG := bg 995 (by decide +kernel) rfl
theorem q_996 : Cond.code yX5_base cX5_base 4 (some .int) ∈ BG := bg 996 (by decide +kernel) rfl
theorem q_997 : Cond.methodLink RL 108 yX5_set ∈ BG := bg 997 (by decide +kernel) rfl
theorem q_998 : Cond.instanceMethod yX5_set ∈ BG := bg 998 (by decide +kernel) rfl
theorem q_999 : Cond.selects RX5 yX5_set yX5_set ∈ BG := bg 999 (by decide +kernel) rfl
theorem q_1000 : Cond.code yX5_set cX5_set 4 (some .int) ∈ BG := bg 1000 (by decide +kernel) rfl
theorem q_1004 : Cond.methodLink RL 112 yX5_complain ∈ BG := bg 1004 (by decide +kernel) rfl
theorem q_1005 : Cond.instanceMethod yX5_complain ∈ BG := bg 1005 (by decide +kernel) rfl
theorem q_1006 : Cond.selects RX5 yX5_complain yX5_complain ∈ BG := bg 1006 (by decide +kernel) rfl
theorem q_1007 : Cond.code yX5_complain cX5_complain 4 (some .int) ∈ BG := bg 1007 (by decide +kernel) rfl
theorem q_1015 : Cond.methodLink RL 115 yX5_decide ∈ BG := bg 1015 (by decide +kernel) rfl
theorem q_1016 : Cond.instanceMethod yX5_decide ∈ BG := bg 1016 (by decide +kernel) rfl
theorem q_1017 : Cond.selects RX5 yX5_decide yX5_decide ∈ BG := bg 1017 (by decide +kernel) rfl
theorem q_1018 : Cond.code yX5_decide cX5_decide 9 (some .int) ∈ BG := bg 1018 (by decide +kernel) rfl
theorem q_1058 : Cond.methodLink RL 119 yX5_appeal ∈ BG := bg 1058 (by decide +kernel) rfl
theorem q_1059 : Cond.instanceMethod yX5_appeal ∈ BG := bg 1059 (by decide +kernel) rfl
theorem q_1060 : Cond.selects RX5 yX5_appeal yX5_appeal ∈ BG := bg 1060 (by decide +kernel) rfl
theorem q_1061 : Cond.code yX5_appeal cX5_appeal 2 (some .int) ∈ BG := bg 1061 (by decide +kernel) rfl
theorem q_1066 : Cond.methodLink RL 122 yX5_judge ∈ BG := bg 1066 (by decide +kernel) rfl
theorem q_1067 : Cond.instanceMethod yX5_judge ∈ BG := bg 1067 (by decide +kernel) rfl
theorem q_1068 : Cond.selects RX5 yX5_judge yX5_judge ∈ BG := bg 1068 (by decide +kernel) rfl
theorem q_1069 : Cond.code yX5_judge cX5_judge 3 (some .int) ∈ BG := bg 1069 (by decide +kernel) rfl
theorem q_1086 : Cond.methodLink RL 126 yX5_closeMonth ∈ BG := bg 1086 (by decide +kernel) rfl
theorem q_1087 : Cond.instanceMethod yX5_closeMonth ∈ BG := bg 1087 (by decide +kernel) rfl
theorem q_1088 : Cond.selects RX5 yX5_closeMonth yX5_closeMonth ∈ BG := bg 1088 (by decide +kernel) rfl
theorem q_1089 : Cond.code yX5_closeMonth cX5_closeMonth 1 (some .int) ∈ BG := bg 1089 (by decide +kernel) rfl
theorem q_1094 : Cond.methodLink RL 129 yX5_append ∈ BG := bg 1094 (by decide +kernel) rfl
theorem q_1095 : Cond.instanceMethod yX5_append ∈ BG := bg 1095 (by decide +kernel) rfl
theorem q_1096 : Cond.selects RX5 yX5_append yX5_append ∈ BG := bg 1096 (by decide +kernel) rfl
theorem q_1097 : Cond.code yX5_append cX5_append 2 (some .int) ∈ BG := bg 1097 (by decide +kernel) rfl
theorem q_1098 : Cond.methodLink RL 133 yX5_clearBuffer ∈ BG := bg 1098 (by decide +kernel) rfl
theorem q_1099 : Cond.instanceMethod yX5_clearBuffer ∈ BG := bg 1099 (by decide +kernel) rfl
theorem q_1100 : Cond.selects RX5 yX5_clearBuffer yX5_clearBuffer ∈ BG := bg 1100 (by decide +kernel) rfl
theorem q_1101 : Cond.code yX5_clearBuffer cX5_clearBuffer 2 (some .int) ∈ BG := bg 1101 (by decide +kernel) rfl
theorem q_1102 : Cond.methodLink RL 137 yX5_firstError ∈ BG := bg 1102 (by decide +kernel) rfl
theorem q_1103 : Cond.instanceMethod yX5_firstError ∈ BG := bg 1103 (by decide +kernel) rfl
theorem q_1104 : Cond.selects RX5 yX5_firstError yX5_firstError ∈ BG := bg 1104 (by decide +kernel) rfl
theorem q_1105 : Cond.code yX5_firstError cX5_firstError 1 (some .int) ∈ BG := bg 1105 (by decide +kernel) rfl
theorem q_1122 : Cond.methodLink RL 140 yX5_complainAll ∈ BG := bg 1122 (by decide +kernel) rfl
theorem q_1123 : Cond.instanceMethod yX5_complainAll ∈ BG := bg 1123 (by decide +kernel) rfl
theorem q_1124 : Cond.selects RX5 yX5_complainAll yX5_complainAll ∈ BG := bg 1124 (by decide +kernel) rfl
theorem q_1125 : Cond.code yX5_complainAll cX5_complainAll 2 (some .int) ∈ BG := bg 1125 (by decide +kernel) rfl
theorem q_1126 : Cond.methodLink RL 143 yX5_undo ∈ BG := bg 1126 (by decide +kernel) rfl
theorem q_1127 : Cond.instanceMethod yX5_undo ∈ BG := bg 1127 (by decide +kernel) rfl
theorem q_1128 : Cond.selects RX5 yX5_undo yX5_undo ∈ BG := bg 1128 (by decide +kernel) rfl
theorem q_1129 : Cond.code yX5_undo cX5_undo 2 (some .int) ∈ BG := bg 1129 (by decide +kernel) rfl
theorem q_1130 : Cond.methodLink RL 146 yX5_complaint ∈ BG := bg 1130 (by decide +kernel) rfl
theorem q_1131 : Cond.instanceMethod yX5_complaint ∈ BG := bg 1131 (by decide +kernel) rfl
theorem q_1132 : Cond.selects RX5 yX5_complaint yX5_complaint ∈ BG := bg 1132 (by decide +kernel) rfl
theorem q_1133 : Cond.code yX5_complaint cX5_complaint 3 (some .int) ∈ BG := bg 1133 (by decide +kernel) rfl
theorem q_1138 : Cond.methodLink RL 149 yX5_amends ∈ BG := bg 1138 (by decide +kernel) rfl
theorem q_1139 : Cond.instanceMethod yX5_amends ∈ BG := bg 1139 (by decide +kernel) rfl
theorem q_1140 : Cond.selects RX5 yX5_amends yX5_amends ∈ BG := bg 1140 (by decide +kernel) rfl
theorem q_1141 : Cond.code yX5_amends cX5_amends 4 (some .int) ∈ BG := bg 1141 (by decide +kernel) rfl
theorem q_1150 : Cond.methodLink RL 152 yX5_precedent ∈ BG := bg 1150 (by decide +kernel) rfl
theorem q_1151 : Cond.instanceMethod yX5_precedent ∈ BG := bg 1151 (by decide +kernel) rfl
theorem q_1152 : Cond.selects RX5 yX5_precedent yX5_precedent ∈ BG := bg 1152 (by decide +kernel) rfl
theorem q_1153 : Cond.code yX5_precedent cX5_precedent 4 (some .int) ∈ BG := bg 1153 (by decide +kernel) rfl
theorem q_1162 : Cond.methodLink RL 155 yX5_kind ∈ BG := bg 1162 (by decide +kernel) rfl
theorem q_1163 : Cond.instanceMethod yX5_kind ∈ BG := bg 1163 (by decide +kernel) rfl
theorem q_1164 : Cond.selects RX5 yX5_kind yX5_kind ∈ BG := bg 1164 (by decide +kernel) rfl
theorem q_1165 : Cond.code yX5_kind cX5_kind 3 (some .int) ∈ BG := bg 1165 (by decide +kernel) rfl
theorem q_1174 : Cond.methodLink RL 158 yX5_count ∈ BG := bg 1174 (by decide +kernel) rfl
theorem q_1175 : Cond.instanceMethod yX5_count ∈ BG := bg 1175 (by decide +kernel) rfl
theorem q_1176 : Cond.selects RX5 yX5_count yX5_count ∈ BG := bg 1176 (by decide +kernel) rfl
theorem q_1177 : Cond.code yX5_count cX5_count 2 (some .int) ∈ BG := bg 1177 (by decide +kernel) rfl
theorem q_1190 : Cond.methodLink RL 161 yX5_setting ∈ BG := bg 1190 (by decide +kernel) rfl
theorem q_1191 : Cond.instanceMethod yX5_setting ∈ BG := bg 1191 (by decide +kernel) rfl
theorem q_1192 : Cond.selects RX5 yX5_setting yX5_setting ∈ BG := bg 1192 (by decide +kernel) rfl
theorem q_1193 : Cond.code yX5_setting cX5_setting 2 (some .int) ∈ BG := bg 1193 (by decide +kernel) rfl
theorem q_1194 : Cond.methodLink RL 164 yX5_ofCustomer ∈ BG := bg 1194 (by decide +kernel) rfl
theorem q_1195 : Cond.instanceMethod yX5_ofCustomer ∈ BG := bg 1195 (by decide +kernel) rfl
theorem q_1196 : Cond.selects RX5 yX5_ofCustomer yX5_ofCustomer ∈ BG := bg 1196 (by decide +kernel) rfl
theorem q_1197 : Cond.code yX5_ofCustomer cX5_ofCustomer 3 (some .int) ∈ BG := bg 1197 (by decide +kernel) rfl
theorem q_1202 : Cond.methodLink RL 167 yX5_whyNot ∈ BG := bg 1202 (by decide +kernel) rfl
theorem q_1203 : Cond.instanceMethod yX5_whyNot ∈ BG := bg 1203 (by decide +kernel) rfl
theorem q_1204 : Cond.selects RX5 yX5_whyNot yX5_whyNot ∈ BG := bg 1204 (by decide +kernel) rfl
theorem q_1205 : Cond.code yX5_whyNot cX5_whyNot 4 (some .int) ∈ BG := bg 1205 (by decide +kernel) rfl
theorem q_1210 : Cond.methodLink RL 170 yX5_fair ∈ BG := bg 1210 (by decide +kernel) rfl
theorem q_1211 : Cond.instanceMethod yX5_fair ∈ BG := bg 1211 (by decide +kernel) rfl
theorem q_1212 : Cond.selects RX5 yX5_fair yX5_fair ∈ BG := bg 1212 (by decide +kernel) rfl
theorem q_1213 : Cond.code yX5_fair cX5_fair 2 (some .int) ∈ BG := bg 1213 (by decide +kernel) rfl
theorem q_1218 : Cond.methodLink RL 173 yX5_ifJudged ∈ BG := bg 1218 (by decide +kernel) rfl
theorem q_1219 : Cond.instanceMethod yX5_ifJudged ∈ BG := bg 1219 (by decide +kernel) rfl
theorem q_1220 : Cond.selects RX5 yX5_ifJudged yX5_ifJudged ∈ BG := bg 1220 (by decide +kernel) rfl
theorem q_1221 : Cond.code yX5_ifJudged cX5_ifJudged 4 (some .int) ∈ BG := bg 1221 (by decide +kernel) rfl
theorem q_1234 : Cond.methodLink RL 177 yX5_monthsToEqual ∈ BG := bg 1234 (by decide +kernel) rfl
theorem q_1235 : Cond.instanceMethod yX5_monthsToEqual ∈ BG := bg 1235 (by decide +kernel) rfl
theorem q_1236 : Cond.selects RX5 yX5_monthsToEqual yX5_monthsToEqual ∈ BG := bg 1236 (by decide +kernel) rfl
theorem q_1237 : Cond.code yX5_monthsToEqual cX5_monthsToEqual 1 (some .int) ∈ BG := bg 1237 (by decide +kernel) rfl
theorem q_1242 : Cond.methodLink RL 182 yX5_followShare ∈ BG := bg 1242 (by decide +kernel) rfl
theorem q_1243 : Cond.instanceMethod yX5_followShare ∈ BG := bg 1243 (by decide +kernel) rfl
theorem q_1244 : Cond.selects RX5 yX5_followShare yX5_followShare ∈ BG := bg 1244 (by decide +kernel) rfl
theorem q_1245 : Cond.code yX5_followShare cX5_followShare 1 (some .double) ∈ BG := bg 1245 (by decide +kernel) rfl
theorem q_1250 : Cond.methodLink RL 187 yX5_digest ∈ BG := bg 1250 (by decide +kernel) rfl
theorem q_1251 : Cond.instanceMethod yX5_digest ∈ BG := bg 1251 (by decide +kernel) rfl
theorem q_1252 : Cond.selects RX5 yX5_digest yX5_digest ∈ BG := bg 1252 (by decide +kernel) rfl
theorem q_1253 : Cond.code yX5_digest cX5_digest 2 (some .long) ∈ BG := bg 1253 (by decide +kernel) rfl
theorem kl_90 {R : Room} {s : State} {args : Array Value} (hB : ∀ w ∈ BG, w.before args s = true) (hR : (rmT 9).frames + 1 ≤ R.frames ∧ 8 + (7 + 11) + (rmT 9).locals ≤ R.locals) : vx_CSW R s args RL 90 yL_offer cL_offer 7 (some .int) [(0, 14, 17, 13), (0, 14, 21, 15), (0, 14, 25, 17)] (wsW yL_offer cL_offer 7 [(0, 14, 17, 13), (0, 14, 21, 15), (0, 14, 25, 17)]) (rmT 9) 1 6 6 := kS_W hB q_703 q_57 q_701 q_702 (by decide +kernel) hR
theorem kl_95 {R : Room} {s : State} {args : Array Value} (hB : ∀ w ∈ BG, w.before args s = true) (hR : (rmH 2).frames + 1 ≤ R.frames ∧ 8 + (6 + 11) + (rmH 2).locals ≤ R.locals) : CallW R s args RL RX5 95 yX5_offer cX5_offer 6 (some .int) (wsM yX5_offer cX5_offer 6 (some .int)) (rmH 2) 0 0 4 := k_V hB q_959 q_66 q_956 q_957 q_958 (by decide +kernel) hR
theorem kl_96 {R : Room} {s : State} {args : Array Value} (hB : ∀ w ∈ BG, w.before args s = true) (hR : (rmH 0).frames + 1 ≤ R.frames ∧ 8 + (1 + 11) + (rmH 0).locals ≤ R.locals) : CallW R s args RL RX5 96 yX5_thrown cX5_thrown 1 (some .int) (wsM yX5_thrown cX5_thrown 1 (some .int)) (rmH 0) 0 0 0 := k_V hB q_955 q_66 q_952 q_953 q_954 (by decide +kernel) hR
theorem kl_99 {R : Room} {s : State} {args : Array Value} (hB : ∀ w ∈ BG, w.before args s = true) (hR : (rmT 9).frames + 1 ≤ R.frames ∧ 8 + (5 + 11) + (rmT 9).locals ≤ R.locals) : vx_CSW R s args RL 99 yL_takeOff cL_takeOff 5 (some .int) [(0, 10, 13, 13), (0, 10, 17, 17)] (wsW yL_takeOff cL_takeOff 5 [(0, 10, 13, 13), (0, 10, 17, 17)]) (rmT 9) 1 6 4 := kS_W hB q_743 q_57 q_741 q_742 (by decide +kernel) hR
theorem kl_102 {R : Room} {s : State} {args : Array Value} (hB : ∀ w ∈ BG, w.before args s = true) (hR : (rmH 3).frames + 1 ≤ R.frames ∧ 8 + (3 + 11) + (rmH 3).locals ≤ R.locals) : CallW R s args RL RX5 102 yX5_takeOff cX5_takeOff 3 (some .int) (wsM yX5_takeOff cX5_takeOff 3 (some .int)) (rmH 3) 0 0 2 := k_V hB q_980 q_66 q_977 q_978 q_979 (by decide +kernel) hR
theorem kl_103 {R : Room} {s : State} {args : Array Value} (hB : ∀ w ∈ BG, w.before args s = true) (hR : (rmT 9).frames + 1 ≤ R.frames ∧ 8 + (5 + 11) + (rmT 9).locals ≤ R.locals) : vx_CSW R s args RL 103 yL_base cL_base 5 (some .int) [(0, 10, 13, 13), (0, 10, 17, 15)] (wsW yL_base cL_base 5 [(0, 10, 13, 13), (0, 10, 17, 15)]) (rmT 9) 1 6 4 := kS_W hB q_756 q_57 q_754 q_755 (by decide +kernel) hR
theorem kl_105 {R : Room} {s : State} {args : Array Value} (hB : ∀ w ∈ BG, w.before args s = true) (hR : (rmH 2).frames + 1 ≤ R.frames ∧ 8 + (4 + 11) + (rmH 2).locals ≤ R.locals) : CallW R s args RL RX5 105 yX5_base cX5_base 4 (some .int) (wsM yX5_base cX5_base 4 (some .int)) (rmH 2) 0 0 2 := k_V hB q_996 q_66 q_993 q_994 q_995 (by decide +kernel) hR
theorem kl_106 {R : Room} {s : State} {args : Array Value} (hB : ∀ w ∈ BG, w.before args s = true) (hR : (rmT 9).frames + 1 ≤ R.frames ∧ 8 + (5 + 11) + (rmT 9).locals ≤ R.locals) : vx_CSW R s args RL 106 yL_set cL_set 5 (some .int) [(0, 10, 13, 13), (0, 10, 17, 15)] (wsW yL_set cL_set 5 [(0, 10, 13, 13), (0, 10, 17, 15)]) (rmT 9) 1 6 4 := kS_W hB q_768 q_57 q_766 q_767 (by decide +kernel) hR
theorem kl_108 {R : Room} {s : State} {args : Array Value} (hB : ∀ w ∈ BG, w.before args s = true) (hR : (rmH 2).frames + 1 ≤ R.frames ∧ 8 + (4 + 11) + (rmH 2).locals ≤ R.locals) : CallW R s args RL RX5 108 yX5_set cX5_set 4 (some .int) (wsM yX5_set cX5_set 4 (some .int)) (rmH 2) 0 0 2 := k_V hB q_1000 q_66 q_997 q_998 q_999 (by decide +kernel) hR
theorem kl_109 {R : Room} {s : State} {args : Array Value} (hB : ∀ w ∈ BG, w.before args s = true) (hR : (rmT 9).frames + 1 ≤ R.frames ∧ 8 + (6 + 11) + (rmT 9).locals ≤ R.locals) : vx_CSW R s args RL 109 yL_complain cL_complain 6 (some .int) [(0, 12, 15, 13), (0, 12, 19, 15), (0, 12, 23, 17)] (wsW yL_complain cL_complain 6 [(0, 12, 15, 13), (0, 12, 19, 15), (0, 12, 23, 17)]) (rmT 9) 1 6 5 := kS_W hB q_786 q_57 q_784 q_785 (by decide +kernel) hR
theorem kl_112 {R : Room} {s : State} {args : Array Value} (hB : ∀ w ∈ BG, w.before args s = true) (hR : (rmH 2).frames + 1 ≤ R.frames ∧ 8 + (4 + 11) + (rmH 2).locals ≤ R.locals) : CallW R s args RL RX5 112 yX5_complain cX5_complain 4 (some .int) (wsM yX5_complain cX5_complain 4 (some .int)) (rmH 2) 0 0 3 := k_V hB q_1007 q_66 q_1004 q_1005 q_1006 (by decide +kernel) hR
theorem kl_113 {R : Room} {s : State} {args : Array Value} (hB : ∀ w ∈ BG, w.before args s = true) (hR : (rmT 9).frames + 1 ≤ R.frames ∧ 8 + (6 + 11) + (rmT 9).locals ≤ R.locals) : vx_CSW R s args RL 113 yL_decide cL_decide 6 (some .int) [(0, 12, 15, 13), (0, 12, 19, 15), (0, 12, 23, 17)] (wsW yL_decide cL_decide 6 [(0, 12, 15, 13), (0, 12, 19, 15), (0, 12, 23, 17)]) (rmT 9) 1 6 5 := kS_W hB q_797 q_57 q_795 q_796 (by decide +kernel) hR
theorem kl_115 {R : Room} {s : State} {args : Array Value} (hB : ∀ w ∈ BG, w.before args s = true) (hR : (rmH 5).frames + 1 ≤ R.frames ∧ 8 + (9 + 11) + (rmH 5).locals ≤ R.locals) : CallW R s args RL RX5 115 yX5_decide cX5_decide 9 (some .int) (wsM yX5_decide cX5_decide 9 (some .int)) (rmH 5) 0 0 3 := k_V hB q_1018 q_66 q_1015 q_1016 q_1017 (by decide +kernel) hR
theorem kl_116 {R : Room} {s : State} {args : Array Value} (hB : ∀ w ∈ BG, w.before args s = true) (hR : (rmT 9).frames + 1 ≤ R.frames ∧ 8 + (4 + 11) + (rmT 9).locals ≤ R.locals) : vx_CSW R s args RL 116 yL_appeal cL_appeal 4 (some .int) [(0, 9, 12, 13), (0, 9, 15, 17)] (wsW yL_appeal cL_appeal 4 [(0, 9, 12, 13), (0, 9, 15, 17)]) (rmT 9) 1 6 3 := kS_W hB q_816 q_57 q_814 q_815 (by decide +kernel) hR
theorem kl_119 {R : Room} {s : State} {args : Array Value} (hB : ∀ w ∈ BG, w.before args s = true) (hR : (rmH 2).frames + 1 ≤ R.frames ∧ 8 + (2 + 11) + (rmH 2).locals ≤ R.locals) : CallW R s args RL RX5 119 yX5_appeal cX5_appeal 2 (some .int) (wsM yX5_appeal cX5_appeal 2 (some .int)) (rmH 2) 0 0 1 := k_V hB q_1061 q_66 q_1058 q_1059 q_1060 (by decide +kernel) hR
theorem kl_120 {R : Room} {s : State} {args : Array Value} (hB : ∀ w ∈ BG, w.before args s = true) (hR : (rmT 9).frames + 1 ≤ R.frames ∧ 8 + (5 + 11) + (rmT 9).locals ≤ R.locals) : vx_CSW R s args RL 120 yL_judge cL_judge 5 (some .int) [(0, 10, 13, 13), (0, 10, 17, 17)] (wsW yL_judge cL_judge 5 [(0, 10, 13, 13), (0, 10, 17, 17)]) (rmT 9) 1 6 4 := kS_W hB q_828 q_57 q_826 q_827 (by decide +kernel) hR
theorem kl_122 {R : Room} {s : State} {args : Array Value} (hB : ∀ w ∈ BG, w.before args s = true) (hR : (rmH 6).frames + 1 ≤ R.frames ∧ 8 + (3 + 11) + (rmH 6).locals ≤ R.locals) : CallW R s args RL RX5 122 yX5_judge cX5_judge 3 (some .int) (wsM yX5_judge cX5_judge 3 (some .int)) (rmH 6) 0 0 2 := k_V hB q_1069 q_66 q_1066 q_1067 q_1068 (by decide +kernel) hR
theorem kl_123 {R : Room} {s : State} {args : Array Value} (hB : ∀ w ∈ BG, w.before args s = true) (hR : (rmT 9).frames + 1 ≤ R.frames ∧ 8 + (3 + 11) + (rmT 9).locals ≤ R.locals) : vx_CSW R s args RL 123 yL_closeMonth cL_closeMonth 3 (some .int) [(0, 8, 11, 17)] (wsW yL_closeMonth cL_closeMonth 3 [(0, 8, 11, 17)]) (rmT 9) 1 6 2 := kS_W hB q_835 q_57 q_833 q_834 (by decide +kernel) hR
theorem kl_126 {R : Room} {s : State} {args : Array Value} (hB : ∀ w ∈ BG, w.before args s = true) (hR : (rmH 6).frames + 1 ≤ R.frames ∧ 8 + (1 + 11) + (rmH 6).locals ≤ R.locals) : CallW R s args RL RX5 126 yX5_closeMonth cX5_closeMonth 1 (some .int) (wsM yX5_closeMonth cX5_closeMonth 1 (some .int)) (rmH 6) 0 0 0 := k_V hB q_1089 q_66 q_1086 q_1087 q_1088 (by decide +kernel) hR
theorem kl_127 {R : Room} {s : State} {args : Array Value} (hB : ∀ w ∈ BG, w.before args s = true) (hR : (rmT 9).frames + 1 ≤ R.frames ∧ 8 + (4 + 11) + (rmT 9).locals ≤ R.locals) : vx_CSW R s args RL 127 yL_append cL_append 4 (some .int) [(0, 9, 12, 15), (0, 9, 15, 17)] (wsW yL_append cL_append 4 [(0, 9, 12, 15), (0, 9, 15, 17)]) (rmT 9) 1 6 3 := kS_W hB q_842 q_57 q_840 q_841 (by decide +kernel) hR
theorem kl_129 {R : Room} {s : State} {args : Array Value} (hB : ∀ w ∈ BG, w.before args s = true) (hR : (rmH 1).frames + 1 ≤ R.frames ∧ 8 + (2 + 11) + (rmH 1).locals ≤ R.locals) : CallW R s args RL RX5 129 yX5_append cX5_append 2 (some .int) (wsM yX5_append cX5_append 2 (some .int)) (rmH 1) 0 0 1 := k_V hB q_1097 q_66 q_1094 q_1095 q_1096 (by decide +kernel) hR
theorem kl_130 {R : Room} {s : State} {args : Array Value} (hB : ∀ w ∈ BG, w.before args s = true) (hR : (rmH 0).frames + 1 ≤ R.frames ∧ 8 + (2 + 11) + (rmH 0).locals ≤ R.locals) : CallW R s args RL RX4 130 yX4_clearBuffer cX4_clearBuffer 2 (some .int) (wsM yX4_clearBuffer cX4_clearBuffer 2 (some .int)) (rmH 0) 0 0 0 := k_V hB q_244 q_58 q_241 q_242 q_243 (by decide +kernel) hR
theorem kl_133 {R : Room} {s : State} {args : Array Value} (hB : ∀ w ∈ BG, w.before args s = true) (hR : (rmH 0).frames + 1 ≤ R.frames ∧ 8 + (2 + 11) + (rmH 0).locals ≤ R.locals) : CallW R s args RL RX5 133 yX5_clearBuffer cX5_clearBuffer 2 (some .int) (wsM yX5_clearBuffer cX5_clearBuffer 2 (some .int)) (rmH 0) 0 0 0 := k_V hB q_1101 q_66 q_1098 q_1099 q_1100 (by decide +kernel) hR
theorem kl_134 {R : Room} {s : State} {args : Array Value} (hB : ∀ w ∈ BG, w.before args s = true) (hR : (rmH 2).frames + 1 ≤ R.frames ∧ 8 + (2 + 11) + (rmH 2).locals ≤ R.locals) : CallW R s args RL RX4 134 yX4_firstError cX4_firstError 2 (some .int) (wsM yX4_firstError cX4_firstError 2 (some .int)) (rmH 2) 0 0 0 := k_V hB q_248 q_58 q_245 q_246 q_247 (by decide +kernel) hR
theorem kl_137 {R : Room} {s : State} {args : Array Value} (hB : ∀ w ∈ BG, w.before args s = true) (hR : (rmH 4).frames + 1 ≤ R.frames ∧ 8 + (1 + 11) + (rmH 4).locals ≤ R.locals) : CallW R s args RL RX5 137 yX5_firstError cX5_firstError 1 (some .int) (wsM yX5_firstError cX5_firstError 1 (some .int)) (rmH 4) 0 0 0 := k_V hB q_1105 q_66 q_1102 q_1103 q_1104 (by decide +kernel) hR
theorem kl_138 {R : Room} {s : State} {args : Array Value} (hB : ∀ w ∈ BG, w.before args s = true) (hR : (rmT 9).frames + 1 ≤ R.frames ∧ 8 + (3 + 11) + (rmT 9).locals ≤ R.locals) : vx_CSW R s args RL 138 yL_complainAll cL_complainAll 3 (some .int) [(0, 8, 11, 15), (0, 8, 14, 17)] (wsW yL_complainAll cL_complainAll 3 [(0, 8, 11, 15), (0, 8, 14, 17)]) (rmT 9) 1 6 2 := kS_W hB q_849 q_57 q_847 q_848 (by decide +kernel) hR
theorem kl_140 {R : Room} {s : State} {args : Array Value} (hB : ∀ w ∈ BG, w.before args s = true) (hR : (rmH 4).frames + 1 ≤ R.frames ∧ 8 + (2 + 11) + (rmH 4).locals ≤ R.locals) : CallW R s args RL RX5 140 yX5_complainAll cX5_complainAll 2 (some .int) (wsM yX5_complainAll cX5_complainAll 2 (some .int)) (rmH 4) 0 0 0 := k_V hB q_1125 q_66 q_1122 q_1123 q_1124 (by decide +kernel) hR
theorem kl_141 {R : Room} {s : State} {args : Array Value} (hB : ∀ w ∈ BG, w.before args s = true) (hR : (rmT 9).frames + 1 ≤ R.frames ∧ 8 + (3 + 11) + (rmT 9).locals ≤ R.locals) : vx_CSW R s args RL 141 yL_undo cL_undo 3 (some .int) [(0, 8, 11, 17)] (wsW yL_undo cL_undo 3 [(0, 8, 11, 17)]) (rmT 9) 1 6 2 := kS_W hB q_861 q_57 q_859 q_860 (by decide +kernel) hR
theorem kl_143 {R : Room} {s : State} {args : Array Value} (hB : ∀ w ∈ BG, w.before args s = true) (hR : (rmH 1).frames + 1 ≤ R.frames ∧ 8 + (2 + 11) + (rmH 1).locals ≤ R.locals) : CallW R s args RL RX5 143 yX5_undo cX5_undo 2 (some .int) (wsM yX5_undo cX5_undo 2 (some .int)) (rmH 1) 0 0 0 := k_V hB q_1129 q_66 q_1126 q_1127 q_1128 (by decide +kernel) hR
theorem kl_144 {R : Room} {s : State} {args : Array Value} (hB : ∀ w ∈ BG, w.before args s = true) (hR : (rmT 9).frames + 1 ≤ R.frames ∧ 8 + (5 + 11) + (rmT 9).locals ≤ R.locals) : vx_CSW R s args RL 144 yL_complaint cL_complaint 5 (some .int) [(0, 10, 13, 13), (0, 10, 17, 15)] (wsW yL_complaint cL_complaint 5 [(0, 10, 13, 13), (0, 10, 17, 15)]) (rmT 9) 1 6 4 := kS_W hB q_868 q_57 q_866 q_867 (by decide +kernel) hR
theorem kl_146 {R : Room} {s : State} {args : Array Value} (hB : ∀ w ∈ BG, w.before args s = true) (hR : (rmH 5).frames + 1 ≤ R.frames ∧ 8 + (3 + 11) + (rmH 5).locals ≤ R.locals) : CallW R s args RL RX5 146 yX5_complaint cX5_complaint 3 (some .int) (wsM yX5_complaint cX5_complaint 3 (some .int)) (rmH 5) 0 0 2 := k_V hB q_1133 q_66 q_1130 q_1131 q_1132 (by decide +kernel) hR
theorem kl_147 {R : Room} {s : State} {args : Array Value} (hB : ∀ w ∈ BG, w.before args s = true) (hR : (rmT 9).frames + 1 ≤ R.frames ∧ 8 + (6 + 11) + (rmT 9).locals ≤ R.locals) : vx_CSW R s args RL 147 yL_amends cL_amends 6 (some .int) [(0, 12, 15, 13), (0, 12, 19, 15)] (wsW yL_amends cL_amends 6 [(0, 12, 15, 13), (0, 12, 19, 15)]) (rmT 9) 1 6 5 := kS_W hB q_872 q_57 q_870 q_871 (by decide +kernel) hR
theorem kl_149 {R : Room} {s : State} {args : Array Value} (hB : ∀ w ∈ BG, w.before args s = true) (hR : (rmH 3).frames + 1 ≤ R.frames ∧ 8 + (4 + 11) + (rmH 3).locals ≤ R.locals) : CallW R s args RL RX5 149 yX5_amends cX5_amends 4 (some .int) (wsM yX5_amends cX5_amends 4 (some .int)) (rmH 3) 0 0 3 := k_V hB q_1141 q_66 q_1138 q_1139 q_1140 (by decide +kernel) hR
theorem kl_150 {R : Room} {s : State} {args : Array Value} (hB : ∀ w ∈ BG, w.before args s = true) (hR : (rmT 9).frames + 1 ≤ R.frames ∧ 8 + (6 + 11) + (rmT 9).locals ≤ R.locals) : vx_CSW R s args RL 150 yL_precedent cL_precedent 6 (some .int) [(0, 12, 15, 13), (0, 12, 19, 15)] (wsW yL_precedent cL_precedent 6 [(0, 12, 15, 13), (0, 12, 19, 15)]) (rmT 9) 1 6 5 := kS_W hB q_876 q_57 q_874 q_875 (by decide +kernel) hR
theorem kl_152 {R : Room} {s : State} {args : Array Value} (hB : ∀ w ∈ BG, w.before args s = true) (hR : (rmH 5).frames + 1 ≤ R.frames ∧ 8 + (4 + 11) + (rmH 5).locals ≤ R.locals) : CallW R s args RL RX5 152 yX5_precedent cX5_precedent 4 (some .int) (wsM yX5_precedent cX5_precedent 4 (some .int)) (rmH 5) 0 0 3 := k_V hB q_1153 q_66 q_1150 q_1151 q_1152 (by decide +kernel) hR
theorem kl_153 {R : Room} {s : State} {args : Array Value} (hB : ∀ w ∈ BG, w.before args s = true) (hR : (rmT 9).frames + 1 ≤ R.frames ∧ 8 + (5 + 11) + (rmT 9).locals ≤ R.locals) : vx_CSW R s args RL 153 yL_kind cL_kind 5 (some .int) [(0, 10, 13, 13), (0, 10, 17, 15)] (wsW yL_kind cL_kind 5 [(0, 10, 13, 13), (0, 10, 17, 15)]) (rmT 9) 1 6 4 := kS_W hB q_880 q_57 q_878 q_879 (by decide +kernel) hR
theorem kl_155 {R : Room} {s : State} {args : Array Value} (hB : ∀ w ∈ BG, w.before args s = true) (hR : (rmH 6).frames + 1 ≤ R.frames ∧ 8 + (3 + 11) + (rmH 6).locals ≤ R.locals) : CallW R s args RL RX5 155 yX5_kind cX5_kind 3 (some .int) (wsM yX5_kind cX5_kind 3 (some .int)) (rmH 6) 0 0 2 := k_V hB q_1165 q_66 q_1162 q_1163 q_1164 (by decide +kernel) hR
theorem kl_156 {R : Room} {s : State} {args : Array Value} (hB : ∀ w ∈ BG, w.before args s = true) (hR : (rmT 9).frames + 1 ≤ R.frames ∧ 8 + (4 + 11) + (rmT 9).locals ≤ R.locals) : vx_CSW R s args RL 156 yL_count cL_count 4 (some .int) [(0, 9, 12, 15)] (wsW yL_count cL_count 4 [(0, 9, 12, 15)]) (rmT 9) 1 6 3 := kS_W hB q_884 q_57 q_882 q_883 (by decide +kernel) hR
theorem kl_158 {R : Room} {s : State} {args : Array Value} (hB : ∀ w ∈ BG, w.before args s = true) (hR : (rmH 6).frames + 1 ≤ R.frames ∧ 8 + (2 + 11) + (rmH 6).locals ≤ R.locals) : CallW R s args RL RX5 158 yX5_count cX5_count 2 (some .int) (wsM yX5_count cX5_count 2 (some .int)) (rmH 6) 0 0 1 := k_V hB q_1177 q_66 q_1174 q_1175 q_1176 (by decide +kernel) hR
theorem kl_159 {R : Room} {s : State} {args : Array Value} (hB : ∀ w ∈ BG, w.before args s = true) (hR : (rmT 9).frames + 1 ≤ R.frames ∧ 8 + (4 + 11) + (rmT 9).locals ≤ R.locals) : vx_CSW R s args RL 159 yL_setting cL_setting 4 (some .int) [(0, 9, 12, 13)] (wsW yL_setting cL_setting 4 [(0, 9, 12, 13)]) (rmT 9) 1 6 3 := kS_W hB q_888 q_57 q_886 q_887 (by decide +kernel) hR
theorem kl_161 {R : Room} {s : State} {args : Array Value} (hB : ∀ w ∈ BG, w.before args s = true) (hR : (rmH 1).frames + 1 ≤ R.frames ∧ 8 + (2 + 11) + (rmH 1).locals ≤ R.locals) : CallW R s args RL RX5 161 yX5_setting cX5_setting 2 (some .int) (wsM yX5_setting cX5_setting 2 (some .int)) (rmH 1) 0 0 1 := k_V hB q_1193 q_66 q_1190 q_1191 q_1192 (by decide +kernel) hR
theorem kl_162 {R : Room} {s : State} {args : Array Value} (hB : ∀ w ∈ BG, w.before args s = true) (hR : (rmT 9).frames + 1 ≤ R.frames ∧ 8 + (5 + 11) + (rmT 9).locals ≤ R.locals) : vx_CSW R s args RL 162 yL_ofCustomer cL_ofCustomer 5 (some .int) [(0, 10, 13, 13), (0, 10, 17, 15)] (wsW yL_ofCustomer cL_ofCustomer 5 [(0, 10, 13, 13), (0, 10, 17, 15)]) (rmT 9) 1 6 4 := kS_W hB q_892 q_57 q_890 q_891 (by decide +kernel) hR
theorem kl_164 {R : Room} {s : State} {args : Array Value} (hB : ∀ w ∈ BG, w.before args s = true) (hR : (rmH 2).frames + 1 ≤ R.frames ∧ 8 + (3 + 11) + (rmH 2).locals ≤ R.locals) : CallW R s args RL RX5 164 yX5_ofCustomer cX5_ofCustomer 3 (some .int) (wsM yX5_ofCustomer cX5_ofCustomer 3 (some .int)) (rmH 2) 0 0 2 := k_V hB q_1197 q_66 q_1194 q_1195 q_1196 (by decide +kernel) hR
theorem kl_165 {R : Room} {s : State} {args : Array Value} (hB : ∀ w ∈ BG, w.before args s = true) (hR : (rmT 9).frames + 1 ≤ R.frames ∧ 8 + (6 + 11) + (rmT 9).locals ≤ R.locals) : vx_CSW R s args RL 165 yL_whyNot cL_whyNot 6 (some .int) [(0, 12, 15, 13), (0, 12, 19, 15)] (wsW yL_whyNot cL_whyNot 6 [(0, 12, 15, 13), (0, 12, 19, 15)]) (rmT 9) 1 6 5 := kS_W hB q_896 q_57 q_894 q_895 (by decide +kernel) hR
theorem kl_167 {R : Room} {s : State} {args : Array Value} (hB : ∀ w ∈ BG, w.before args s = true) (hR : (rmH 6).frames + 1 ≤ R.frames ∧ 8 + (4 + 11) + (rmH 6).locals ≤ R.locals) : CallW R s args RL RX5 167 yX5_whyNot cX5_whyNot 4 (some .int) (wsM yX5_whyNot cX5_whyNot 4 (some .int)) (rmH 6) 0 0 3 := k_V hB q_1205 q_66 q_1202 q_1203 q_1204 (by decide +kernel) hR
theorem kl_168 {R : Room} {s : State} {args : Array Value} (hB : ∀ w ∈ BG, w.before args s = true) (hR : (rmT 9).frames + 1 ≤ R.frames ∧ 8 + (4 + 11) + (rmT 9).locals ≤ R.locals) : vx_CSW R s args RL 168 yL_fair cL_fair 4 (some .int) [(0, 9, 12, 13)] (wsW yL_fair cL_fair 4 [(0, 9, 12, 13)]) (rmT 9) 1 6 3 := kS_W hB q_900 q_57 q_898 q_899 (by decide +kernel) hR
theorem kl_170 {R : Room} {s : State} {args : Array Value} (hB : ∀ w ∈ BG, w.before args s = true) (hR : (rmH 6).frames + 1 ≤ R.frames ∧ 8 + (2 + 11) + (rmH 6).locals ≤ R.locals) : CallW R s args RL RX5 170 yX5_fair cX5_fair 2 (some .int) (wsM yX5_fair cX5_fair 2 (some .int)) (rmH 6) 0 0 1 := k_V hB q_1213 q_66 q_1210 q_1211 q_1212 (by decide +kernel) hR
theorem kl_171 {R : Room} {s : State} {args : Array Value} (hB : ∀ w ∈ BG, w.before args s = true) (hR : (rmT 9).frames + 1 ≤ R.frames ∧ 8 + (6 + 11) + (rmT 9).locals ≤ R.locals) : vx_CSW R s args RL 171 yL_ifJudged cL_ifJudged 6 (some .int) [(0, 12, 15, 13), (0, 12, 19, 15)] (wsW yL_ifJudged cL_ifJudged 6 [(0, 12, 15, 13), (0, 12, 19, 15)]) (rmT 9) 1 6 5 := kS_W hB q_904 q_57 q_902 q_903 (by decide +kernel) hR
theorem kl_173 {R : Room} {s : State} {args : Array Value} (hB : ∀ w ∈ BG, w.before args s = true) (hR : (rmH 7).frames + 1 ≤ R.frames ∧ 8 + (4 + 11) + (rmH 7).locals ≤ R.locals) : CallW R s args RL RX5 173 yX5_ifJudged cX5_ifJudged 4 (some .int) (wsM yX5_ifJudged cX5_ifJudged 4 (some .int)) (rmH 7) 0 0 3 := k_V hB q_1221 q_66 q_1218 q_1219 q_1220 (by decide +kernel) hR
theorem kl_174 {R : Room} {s : State} {args : Array Value} (hB : ∀ w ∈ BG, w.before args s = true) (hR : (rmH 6).frames + 1 ≤ R.frames ∧ 8 + (2 + 11) + (rmH 6).locals ≤ R.locals) : CallW R s args RL RX4 174 yX4_monthsToEqual cX4_monthsToEqual 2 (some .int) (wsM yX4_monthsToEqual cX4_monthsToEqual 2 (some .int)) (rmH 6) 0 0 0 := k_V hB q_262 q_58 q_259 q_260 q_261 (by decide +kernel) hR
theorem kl_177 {R : Room} {s : State} {args : Array Value} (hB : ∀ w ∈ BG, w.before args s = true) (hR : (rmH 7).frames + 1 ≤ R.frames ∧ 8 + (1 + 11) + (rmH 7).locals ≤ R.locals) : CallW R s args RL RX5 177 yX5_monthsToEqual cX5_monthsToEqual 1 (some .int) (wsM yX5_monthsToEqual cX5_monthsToEqual 1 (some .int)) (rmH 7) 0 0 0 := k_V hB q_1237 q_66 q_1234 q_1235 q_1236 (by decide +kernel) hR
theorem kl_178 {R : Room} {s : State} {args : Array Value} (hB : ∀ w ∈ BG, w.before args s = true) (hR : (rmH 4).frames + 1 ≤ R.frames ∧ 8 + (2 + 11) + (rmH 4).locals ≤ R.locals) : CallW R s args RL RX4 178 yX4_followShare cX4_followShare 2 (some .double) (wsM yX4_followShare cX4_followShare 2 (some .double)) (rmH 4) 0 0 0 := k_V hB q_360 q_58 q_357 q_358 q_359 (by decide +kernel) hR
theorem kl_182 {R : Room} {s : State} {args : Array Value} (hB : ∀ w ∈ BG, w.before args s = true) (hR : (rmH 3).frames + 1 ≤ R.frames ∧ 8 + (1 + 11) + (rmH 3).locals ≤ R.locals) : CallW R s args RL RX5 182 yX5_followShare cX5_followShare 1 (some .double) (wsM yX5_followShare cX5_followShare 1 (some .double)) (rmH 3) 0 0 0 := k_V hB q_1245 q_66 q_1242 q_1243 q_1244 (by decide +kernel) hR
theorem kl_183 {R : Room} {s : State} {args : Array Value} (hB : ∀ w ∈ BG, w.before args s = true) (hR : (rmH 7).frames + 1 ≤ R.frames ∧ 8 + (5 + 11) + (rmH 7).locals ≤ R.locals) : CallW R s args RL RX4 183 yX4_digest cX4_digest 5 (some .long) (wsM yX4_digest cX4_digest 5 (some .long)) (rmH 7) 0 0 0 := k_V hB q_385 q_58 q_382 q_383 q_384 (by decide +kernel) hR
theorem kl_187 {R : Room} {s : State} {args : Array Value} (hB : ∀ w ∈ BG, w.before args s = true) (hR : (rmH 8).frames + 1 ≤ R.frames ∧ 8 + (2 + 11) + (rmH 8).locals ≤ R.locals) : CallW R s args RL RX5 187 yX5_digest cX5_digest 2 (some .long) (wsM yX5_digest cX5_digest 2 (some .long)) (rmH 8) 0 0 0 := k_V hB q_1253 q_66 q_1250 q_1251 q_1252 (by decide +kernel) hR
set_option maxRecDepth 100000 in
set_option maxHeartbeats 4000000 in
theorem law_0 {p : Program} {l : Launch} {e : Env} {s : State} {mi : MethodId} {args : Array Value} {below : List Frame} {meth : Method} {c : Code} {H : Heap} {locs : List Loc} {cells slots : Nat} {Q : State → Prop} {ls : Array Slot} {E : TE} {b L i : Nat} {xs : Nat → Int32} {x m x1 m1 : XS} {g o o1 : Int64} {kv bb : Int32} (hx : p.tables.exec = Jvm.exec) (hb : c.code = cL_law) (hml : c.maxLocals = 9) (hown : s.vm.findClass RL = some mi.cls) (hB : ∀ w ∈ BG, w.before args s = true) (hK : Ks E s) (hX : va_X b L xs s s.heap) (hbl : b < s.heap.size) (hbA : ¬ Ah E b) (hL : L ≤ 2560) (hi : i + 5 ≤ L) (hcap : cells + 1 ≤ 601024 ∧ slots + 6 ≤ 7293033) (hw : MW l E yL_offer cL_offer 7 [(0, 14, 17, 13), (0, 14, 21, 15), (0, 14, 25, 17)] 9 [rf E 0, .int (xs (i + 1)), .int (xs (i + 2)), .int (xs (i + 3)), .int (xs (i + 4)), rf E 217] (Wd E x m g o) (Wd E x1 m g o1) (some (.int kv))) (hm : f_X5_offer m (xs (i + 1)) (xs (i + 2)) (xs (i + 3)) (xs (i + 4)) = some (bb, m1)) (ht : m1 0 6 = kv) (hv : kv = 0 → o1 = bb.toInt64) (hW : Wd E x m g o H) (hS : va_S (Ah E) s.heap H locs) (hl : lv_has ls 9 [(0, .ref b), (1, rf E 0), (2, rf E 211), (3, rf E 217), (4, .int (nI i))])
    (next : ∀ (H : Heap) (locs : List Loc) (ls : Array Slot), Wd E x1 m1 g o1 H → va_S (Ah E) s.heap H locs → lv_has ls 9 [(0, .ref b), (1, rf E 0), (2, rf E 211), (3, rf E 217), (4, .int (nI i))] → W p l e room_1 s mi args below meth c H locs (cells + 1) (slots + 6) Q (F0 mi 1714 ls [])) : W p l e room_1 s mi args below meth c H locs cells slots Q (F0 mi 160 ls []) := by
  obtain ⟨hc1, hc2⟩ := hcap
  have hcap : cells + 1 ≤ 601024 ∧ slots + 6 ≤ 7293033 := ⟨hc1, hc2⟩
  refine lv_aload_n hx hb dL_law_160 rfl (lv_at hl 1 rfl) ?_
  refine lv_aload_n hx hb dL_law_161 rfl (lv_at hl 0 rfl) ?_
  refine lv_iload hx hb dL_law_162 (lv_at hl 4 rfl) ?_
  refine lv_iconst (v := 1) hx hb dL_law_164 (by decide) ?_
  refine lv_iadd hx hb dL_law_165 ?_
  refine lv_nm (v := nI (i + 1)) (nI_add i 1).symm ?_
  refine r_scr hx hb hX hbl hbA hS hL (k := i + 1) (by omega) dL_law_166 ?_
  refine lv_aload_n hx hb dL_law_167 rfl (lv_at hl 0 rfl) ?_
  refine lv_iload hx hb dL_law_168 (lv_at hl 4 rfl) ?_
  refine lv_iconst (v := 2) hx hb dL_law_170 (by decide) ?_
  refine lv_iadd hx hb dL_law_171 ?_
  refine lv_nm (v := nI (i + 2)) (nI_add i 2).symm ?_
  refine r_scr hx hb hX hbl hbA hS hL (k := i + 2) (by omega) dL_law_172 ?_
  refine lv_aload_n hx hb dL_law_173 rfl (lv_at hl 0 rfl) ?_
  refine lv_iload hx hb dL_law_174 (lv_at hl 4 rfl) ?_
  refine lv_iconst (v := 3) hx hb dL_law_176 (by decide) ?_
  refine lv_iadd hx hb dL_law_177 ?_
  refine lv_nm (v := nI (i + 3)) (nI_add i 3).symm ?_
  refine r_scr hx hb hX hbl hbA hS hL (k := i + 3) (by omega) dL_law_178 ?_
  refine lv_aload_n hx hb dL_law_179 rfl (lv_at hl 0 rfl) ?_
  refine lv_iload hx hb dL_law_180 (lv_at hl 4 rfl) ?_
  refine lv_iconst (v := 4) hx hb dL_law_182 (by decide) ?_
  refine lv_iadd hx hb dL_law_183 ?_
  refine lv_nm (v := nI (i + 4)) (nI_add i 4).symm ?_
  refine r_scr hx hb hX hbl hbA hS hL (k := i + 4) (by omega) dL_law_184 ?_
  refine lv_aload_n hx hb dL_law_185 rfl (lv_at hl 3 rfl) ?_
  refine c_SW (As := [rf E 0, .int (xs (i + 1)), .int (xs (i + 2)), .int (xs (i + 3)), .int (xs (i + 4)), rf E 217]) (rest := []) (st1 := [.int kv]) hw (kl_90 hB ⟨Nat.le_of_ble_eq_true rfl, Nat.le_of_ble_eq_true rfl⟩) hx hb hml hown hB hK hW hS hcap rfl hl.1 rfl (Nat.le_of_ble_eq_true rfl) rfl dL_law_186 (fun H locs hW hS => ?_)
  refine lv_istore (lv' := [(5, .int kv), (0, .ref b), (1, rf E 0), (2, rf E 211), (3, rf E 217), (4, .int (nI i))]) hx hb dL_law_189 hl (by decide) rfl (fun ls hl => ?_)
  refine lv_aload_n hx hb dL_law_191 rfl (lv_at hl 3 rfl) ?_
  refine lv_aload_n hx hb dL_law_192 rfl (lv_at hl 1 rfl) ?_
  refine lv_iload hx hb dL_law_193 (lv_at hl 5 rfl) ?_
  refine lv_iconst (v := 1) hx hb dL_law_195 (by decide) ?_
  refine lv_iadd hx hb dL_law_196 ?_
  refine lv_nm (v := nI (i + 1)) (nI_add i 1).symm ?_
  refine r_scr hx hb hX hbl hbA hS hL (k := i + 1) (by omega) dL_law_197 ?_
  refine lv_aload_n hx hb dL_law_198 rfl (lv_at hl 1 rfl) ?_
  refine lv_iload hx hb dL_law_199 (lv_at hl 5 rfl) ?_
  refine lv_iconst (v := 2) hx hb dL_law_201 (by decide) ?_
  refine lv_iadd hx hb dL_law_202 ?_
  refine lv_nm (v := nI (i + 2)) (nI_add i 2).symm ?_
  refine r_scr hx hb hX hbl hbA hS hL (k := i + 2) (by omega) dL_law_203 ?_
  refine lv_aload_n hx hb dL_law_204 rfl (lv_at hl 1 rfl) ?_
  refine lv_iload hx hb dL_law_205 (lv_at hl 5 rfl) ?_
  refine lv_iconst (v := 3) hx hb dL_law_207 (by decide) ?_
  refine lv_iadd hx hb dL_law_208 ?_
  refine lv_nm (v := nI (i + 3)) (nI_add i 3).symm ?_
  refine r_scr hx hb hX hbl hbA hS hL (k := i + 3) (by omega) dL_law_209 ?_
  refine lv_aload_n hx hb dL_law_210 rfl (lv_at hl 1 rfl) ?_
  refine lv_iload hx hb dL_law_211 (lv_at hl 5 rfl) ?_
  refine lv_iconst (v := 4) hx hb dL_law_213 (by decide) ?_
  refine lv_iadd hx hb dL_law_214 ?_
  refine lv_nm (v := nI (i + 4)) (nI_add i 4).symm ?_
  refine r_scr hx hb hX hbl hbA hS hL (k := i + 4) (by omega) dL_law_215 ?_
  refine c_V (As := [.int (xs (i + 1)), .int (xs (i + 2)), .int (xs (i + 3)), .int (xs (i + 4))]) (st1 := [.int bb]) (rest := []) (p_X5_offer l E x1 m g o1 hm) (kl_95 hB ⟨Nat.le_of_ble_eq_true rfl, Nat.le_of_ble_eq_true rfl⟩) (Wd.rec hK hW (by decide) cM_0 (ci := 5) rfl) hx hb hml hown hB hK hW hS hcap rfl hl.1 rfl (Nat.le_of_ble_eq_true rfl) rfl dL_law_216 (fun H locs hW hS => ?_)
  refine lv_istore (lv' := [(6, .int bb), (5, .int kv), (0, .ref b), (1, rf E 0), (2, rf E 211), (3, rf E 217), (4, .int (nI i))]) hx hb dL_law_219 hl (by decide) rfl (fun ls hl => ?_)
  refine lv_aload_n hx hb dL_law_221 rfl (lv_at hl 4 rfl) ?_
  refine c_V (As := []) (st1 := [.int (m1 0 6)]) (rest := []) (p_X5_thrown l E x1 m1 g o1 rfl) (kl_96 hB ⟨Nat.le_of_ble_eq_true rfl, Nat.le_of_ble_eq_true rfl⟩) (Wd.rec hK hW (by decide) cM_0 (ci := 5) rfl) hx hb hml hown hB hK hW hS hcap rfl hl.1 rfl (Nat.le_of_ble_eq_true rfl) rfl dL_law_222 (fun H locs hW hS => ?_)
  refine lv_iload hx hb dL_law_225 (lv_at hl 1 rfl) ?_
  refine lv_icmp_eq (tgt := 232) hx hb dL_law_227 (by decide) (fun _ => ?_) (fun c9 => absurd ht c9)
  refine lv_iload hx hb dL_law_232 (lv_at hl 1 rfl) ?_
  refine lv_if_ne (tgt := 249) hx hb dL_law_234 (by decide) (fun _ => ?_) (fun c8 => ?_)
  · refine lv_goto (tgt := 1714) hx hb dL_law_249 (by decide) ?_
    exact next H locs ls hW hS (lv_sub hl [2, 3, 4, 5, 6] rfl)
  · refine lv_aload_n hx hb dL_law_237 rfl (lv_at hl 5 rfl) ?_
    refine lv_iconst (v := 0) hx hb dL_law_238 (by decide) ?_
    refine r_lald hx hb hK hW dL_law_239 ?_
    refine lv_iload hx hb dL_law_240 (lv_at hl 0 rfl) ?_
    refine lv_i2l hx hb dL_law_242 rfl ?_
    refine W.lcmp hx hb dL_law_243 ?_
    refine lv_if_eq (tgt := 249) hx hb dL_law_244 (by decide) (fun _ => ?_) (fun c9 => absurd (by rw [hv c8]; simp [lg_cmp]) c9)
    refine lv_goto (tgt := 1714) hx hb dL_law_249 (by decide) ?_
    exact next H locs ls hW hS (lv_sub hl [2, 3, 4, 5, 6] rfl)
set_option maxRecDepth 100000 in
set_option maxHeartbeats 4000000 in
theorem law_1 {p : Program} {l : Launch} {e : Env} {s : State} {mi : MethodId} {args : Array Value} {below : List Frame} {meth : Method} {c : Code} {H : Heap} {locs : List Loc} {cells slots : Nat} {Q : State → Prop} {ls : Array Slot} {E : TE} {b L i : Nat} {xs : Nat → Int32} {x m x1 m1 : XS} {g o o1 : Int64} {kv bb : Int32} (hx : p.tables.exec = Jvm.exec) (hb : c.code = cL_law) (hml : c.maxLocals = 9) (hown : s.vm.findClass RL = some mi.cls) (hB : ∀ w ∈ BG, w.before args s = true) (hK : Ks E s) (hX : va_X b L xs s s.heap) (hbl : b < s.heap.size) (hbA : ¬ Ah E b) (hL : L ≤ 2560) (hi : i + 5 ≤ L) (hcap : cells + 1 ≤ 601024 ∧ slots + 6 ≤ 7293033) (hw : MW l E yL_takeOff cL_takeOff 5 [(0, 10, 13, 13), (0, 10, 17, 17)] 9 [rf E 0, .int (xs (i + 1)), .int (xs (i + 2)), rf E 217] (Wd E x m g o) (Wd E x1 m g o1) (some (.int kv))) (hm : f_X5_takeOff m (xs (i + 1)) (xs (i + 2)) = some (bb, m1)) (ht : m1 0 6 = kv) (hv : kv = 0 → o1 = bb.toInt64) (hW : Wd E x m g o H) (hS : va_S (Ah E) s.heap H locs) (hl : lv_has ls 9 [(0, .ref b), (1, rf E 0), (2, rf E 211), (3, rf E 217), (4, .int (nI i))])
    (next : ∀ (H : Heap) (locs : List Loc) (ls : Array Slot), Wd E x1 m1 g o1 H → va_S (Ah E) s.heap H locs → lv_has ls 9 [(0, .ref b), (1, rf E 0), (2, rf E 211), (3, rf E 217), (4, .int (nI i))] → W p l e room_1 s mi args below meth c H locs (cells + 1) (slots + 6) Q (F0 mi 1714 ls [])) : W p l e room_1 s mi args below meth c H locs cells slots Q (F0 mi 252 ls []) := by
  obtain ⟨hc1, hc2⟩ := hcap
  have hcap : cells + 1 ≤ 601024 ∧ slots + 6 ≤ 7293033 := ⟨hc1, hc2⟩
  refine lv_aload_n hx hb dL_law_252 rfl (lv_at hl 1 rfl) ?_
  refine lv_aload_n hx hb dL_law_253 rfl (lv_at hl 0 rfl) ?_
  refine lv_iload hx hb dL_law_254 (lv_at hl 4 rfl) ?_
  refine lv_iconst (v := 1) hx hb dL_law_256 (by decide) ?_
  refine lv_iadd hx hb dL_law_257 ?_
  refine lv_nm (v := nI (i + 1)) (nI_add i 1).symm ?_
  refine r_scr hx hb hX hbl hbA hS hL (k := i + 1) (by omega) dL_law_258 ?_
  refine lv_aload_n hx hb dL_law_259 rfl (lv_at hl 0 rfl) ?_
  refine lv_iload hx hb dL_law_260 (lv_at hl 4 rfl) ?_
  refine lv_iconst (v := 2) hx hb dL_law_262 (by decide) ?_
  refine lv_iadd hx hb dL_law_263 ?_
  refine lv_nm (v := nI (i + 2)) (nI_add i 2).symm ?_
  refine r_scr hx hb hX hbl hbA hS hL (k := i + 2) (by omega) dL_law_264 ?_
  refine lv_aload_n hx hb dL_law_265 rfl (lv_at hl 3 rfl) ?_
  refine c_SW (As := [rf E 0, .int (xs (i + 1)), .int (xs (i + 2)), rf E 217]) (rest := []) (st1 := [.int kv]) hw (kl_99 hB ⟨Nat.le_of_ble_eq_true rfl, Nat.le_of_ble_eq_true rfl⟩) hx hb hml hown hB hK hW hS hcap rfl hl.1 rfl (Nat.le_of_ble_eq_true rfl) rfl dL_law_266 (fun H locs hW hS => ?_)
  refine lv_istore (lv' := [(5, .int kv), (0, .ref b), (1, rf E 0), (2, rf E 211), (3, rf E 217), (4, .int (nI i))]) hx hb dL_law_269 hl (by decide) rfl (fun ls hl => ?_)
  refine lv_aload_n hx hb dL_law_271 rfl (lv_at hl 3 rfl) ?_
  refine lv_aload_n hx hb dL_law_272 rfl (lv_at hl 1 rfl) ?_
  refine lv_iload hx hb dL_law_273 (lv_at hl 5 rfl) ?_
  refine lv_iconst (v := 1) hx hb dL_law_275 (by decide) ?_
  refine lv_iadd hx hb dL_law_276 ?_
  refine lv_nm (v := nI (i + 1)) (nI_add i 1).symm ?_
  refine r_scr hx hb hX hbl hbA hS hL (k := i + 1) (by omega) dL_law_277 ?_
  refine lv_aload_n hx hb dL_law_278 rfl (lv_at hl 1 rfl) ?_
  refine lv_iload hx hb dL_law_279 (lv_at hl 5 rfl) ?_
  refine lv_iconst (v := 2) hx hb dL_law_281 (by decide) ?_
  refine lv_iadd hx hb dL_law_282 ?_
  refine lv_nm (v := nI (i + 2)) (nI_add i 2).symm ?_
  refine r_scr hx hb hX hbl hbA hS hL (k := i + 2) (by omega) dL_law_283 ?_
  refine c_V (As := [.int (xs (i + 1)), .int (xs (i + 2))]) (st1 := [.int bb]) (rest := []) (p_X5_takeOff l E x1 m g o1 hm) (kl_102 hB ⟨Nat.le_of_ble_eq_true rfl, Nat.le_of_ble_eq_true rfl⟩) (Wd.rec hK hW (by decide) cM_0 (ci := 5) rfl) hx hb hml hown hB hK hW hS hcap rfl hl.1 rfl (Nat.le_of_ble_eq_true rfl) rfl dL_law_284 (fun H locs hW hS => ?_)
  refine lv_istore (lv' := [(6, .int bb), (5, .int kv), (0, .ref b), (1, rf E 0), (2, rf E 211), (3, rf E 217), (4, .int (nI i))]) hx hb dL_law_287 hl (by decide) rfl (fun ls hl => ?_)
  refine lv_aload_n hx hb dL_law_289 rfl (lv_at hl 4 rfl) ?_
  refine c_V (As := []) (st1 := [.int (m1 0 6)]) (rest := []) (p_X5_thrown l E x1 m1 g o1 rfl) (kl_96 hB ⟨Nat.le_of_ble_eq_true rfl, Nat.le_of_ble_eq_true rfl⟩) (Wd.rec hK hW (by decide) cM_0 (ci := 5) rfl) hx hb hml hown hB hK hW hS hcap rfl hl.1 rfl (Nat.le_of_ble_eq_true rfl) rfl dL_law_290 (fun H locs hW hS => ?_)
  refine lv_iload hx hb dL_law_293 (lv_at hl 1 rfl) ?_
  refine lv_icmp_eq (tgt := 300) hx hb dL_law_295 (by decide) (fun _ => ?_) (fun c9 => absurd ht c9)
  refine lv_iload hx hb dL_law_300 (lv_at hl 1 rfl) ?_
  refine lv_if_ne (tgt := 317) hx hb dL_law_302 (by decide) (fun _ => ?_) (fun c8 => ?_)
  · refine lv_goto (tgt := 1714) hx hb dL_law_317 (by decide) ?_
    exact next H locs ls hW hS (lv_sub hl [2, 3, 4, 5, 6] rfl)
  · refine lv_aload_n hx hb dL_law_305 rfl (lv_at hl 5 rfl) ?_
    refine lv_iconst (v := 0) hx hb dL_law_306 (by decide) ?_
    refine r_lald hx hb hK hW dL_law_307 ?_
    refine lv_iload hx hb dL_law_308 (lv_at hl 0 rfl) ?_
    refine lv_i2l hx hb dL_law_310 rfl ?_
    refine W.lcmp hx hb dL_law_311 ?_
    refine lv_if_eq (tgt := 317) hx hb dL_law_312 (by decide) (fun _ => ?_) (fun c9 => absurd (by rw [hv c8]; simp [lg_cmp]) c9)
    refine lv_goto (tgt := 1714) hx hb dL_law_317 (by decide) ?_
    exact next H locs ls hW hS (lv_sub hl [2, 3, 4, 5, 6] rfl)
set_option maxRecDepth 100000 in
set_option maxHeartbeats 4000000 in
theorem law_2 {p : Program} {l : Launch} {e : Env} {s : State} {mi : MethodId} {args : Array Value} {below : List Frame} {meth : Method} {c : Code} {H : Heap} {locs : List Loc} {cells slots : Nat} {Q : State → Prop} {ls : Array Slot} {E : TE} {b L i : Nat} {xs : Nat → Int32} {x m x1 m1 : XS} {g o o1 : Int64} {kv bb : Int32} (hx : p.tables.exec = Jvm.exec) (hb : c.code = cL_law) (hml : c.maxLocals = 9) (hown : s.vm.findClass RL = some mi.cls) (hB : ∀ w ∈ BG, w.before args s = true) (hK : Ks E s) (hX : va_X b L xs s s.heap) (hbl : b < s.heap.size) (hbA : ¬ Ah E b) (hL : L ≤ 2560) (hi : i + 5 ≤ L) (hcap : cells + 1 ≤ 601024 ∧ slots + 6 ≤ 7293033) (hw : MW l E yL_base cL_base 5 [(0, 10, 13, 13), (0, 10, 17, 15)] 9 [rf E 0, .int (xs (i + 1)), .int (xs (i + 2)), rf E 217] (Wd E x m g o) (Wd E x1 m g o1) (some (.int kv))) (hm : f_X5_base m (xs (i + 1)) (xs (i + 2)) = some (bb, m1)) (ht : m1 0 6 = kv) (hv : kv = 0 → o1 = bb.toInt64) (hW : Wd E x m g o H) (hS : va_S (Ah E) s.heap H locs) (hl : lv_has ls 9 [(0, .ref b), (1, rf E 0), (2, rf E 211), (3, rf E 217), (4, .int (nI i))])
    (next : ∀ (H : Heap) (locs : List Loc) (ls : Array Slot), Wd E x1 m1 g o1 H → va_S (Ah E) s.heap H locs → lv_has ls 9 [(0, .ref b), (1, rf E 0), (2, rf E 211), (3, rf E 217), (4, .int (nI i))] → W p l e room_1 s mi args below meth c H locs (cells + 1) (slots + 6) Q (F0 mi 1714 ls [])) : W p l e room_1 s mi args below meth c H locs cells slots Q (F0 mi 320 ls []) := by
  obtain ⟨hc1, hc2⟩ := hcap
  have hcap : cells + 1 ≤ 601024 ∧ slots + 6 ≤ 7293033 := ⟨hc1, hc2⟩
  refine lv_aload_n hx hb dL_law_320 rfl (lv_at hl 1 rfl) ?_
  refine lv_aload_n hx hb dL_law_321 rfl (lv_at hl 0 rfl) ?_
  refine lv_iload hx hb dL_law_322 (lv_at hl 4 rfl) ?_
  refine lv_iconst (v := 1) hx hb dL_law_324 (by decide) ?_
  refine lv_iadd hx hb dL_law_325 ?_
  refine lv_nm (v := nI (i + 1)) (nI_add i 1).symm ?_
  refine r_scr hx hb hX hbl hbA hS hL (k := i + 1) (by omega) dL_law_326 ?_
  refine lv_aload_n hx hb dL_law_327 rfl (lv_at hl 0 rfl) ?_
  refine lv_iload hx hb dL_law_328 (lv_at hl 4 rfl) ?_
  refine lv_iconst (v := 2) hx hb dL_law_330 (by decide) ?_
  refine lv_iadd hx hb dL_law_331 ?_
  refine lv_nm (v := nI (i + 2)) (nI_add i 2).symm ?_
  refine r_scr hx hb hX hbl hbA hS hL (k := i + 2) (by omega) dL_law_332 ?_
  refine lv_aload_n hx hb dL_law_333 rfl (lv_at hl 3 rfl) ?_
  refine c_SW (As := [rf E 0, .int (xs (i + 1)), .int (xs (i + 2)), rf E 217]) (rest := []) (st1 := [.int kv]) hw (kl_103 hB ⟨Nat.le_of_ble_eq_true rfl, Nat.le_of_ble_eq_true rfl⟩) hx hb hml hown hB hK hW hS hcap rfl hl.1 rfl (Nat.le_of_ble_eq_true rfl) rfl dL_law_334 (fun H locs hW hS => ?_)
  refine lv_istore (lv' := [(5, .int kv), (0, .ref b), (1, rf E 0), (2, rf E 211), (3, rf E 217), (4, .int (nI i))]) hx hb dL_law_337 hl (by decide) rfl (fun ls hl => ?_)
  refine lv_aload_n hx hb dL_law_339 rfl (lv_at hl 3 rfl) ?_
  refine lv_aload_n hx hb dL_law_340 rfl (lv_at hl 1 rfl) ?_
  refine lv_iload hx hb dL_law_341 (lv_at hl 5 rfl) ?_
  refine lv_iconst (v := 1) hx hb dL_law_343 (by decide) ?_
  refine lv_iadd hx hb dL_law_344 ?_
  refine lv_nm (v := nI (i + 1)) (nI_add i 1).symm ?_
  refine r_scr hx hb hX hbl hbA hS hL (k := i + 1) (by omega) dL_law_345 ?_
  refine lv_aload_n hx hb dL_law_346 rfl (lv_at hl 1 rfl) ?_
  refine lv_iload hx hb dL_law_347 (lv_at hl 5 rfl) ?_
  refine lv_iconst (v := 2) hx hb dL_law_349 (by decide) ?_
  refine lv_iadd hx hb dL_law_350 ?_
  refine lv_nm (v := nI (i + 2)) (nI_add i 2).symm ?_
  refine r_scr hx hb hX hbl hbA hS hL (k := i + 2) (by omega) dL_law_351 ?_
  refine c_V (As := [.int (xs (i + 1)), .int (xs (i + 2))]) (st1 := [.int bb]) (rest := []) (p_X5_base l E x1 m g o1 hm) (kl_105 hB ⟨Nat.le_of_ble_eq_true rfl, Nat.le_of_ble_eq_true rfl⟩) (Wd.rec hK hW (by decide) cM_0 (ci := 5) rfl) hx hb hml hown hB hK hW hS hcap rfl hl.1 rfl (Nat.le_of_ble_eq_true rfl) rfl dL_law_352 (fun H locs hW hS => ?_)
  refine lv_istore (lv' := [(6, .int bb), (5, .int kv), (0, .ref b), (1, rf E 0), (2, rf E 211), (3, rf E 217), (4, .int (nI i))]) hx hb dL_law_355 hl (by decide) rfl (fun ls hl => ?_)
  refine lv_aload_n hx hb dL_law_357 rfl (lv_at hl 4 rfl) ?_
  refine c_V (As := []) (st1 := [.int (m1 0 6)]) (rest := []) (p_X5_thrown l E x1 m1 g o1 rfl) (kl_96 hB ⟨Nat.le_of_ble_eq_true rfl, Nat.le_of_ble_eq_true rfl⟩) (Wd.rec hK hW (by decide) cM_0 (ci := 5) rfl) hx hb hml hown hB hK hW hS hcap rfl hl.1 rfl (Nat.le_of_ble_eq_true rfl) rfl dL_law_358 (fun H locs hW hS => ?_)
  refine lv_iload hx hb dL_law_361 (lv_at hl 1 rfl) ?_
  refine lv_icmp_eq (tgt := 368) hx hb dL_law_363 (by decide) (fun _ => ?_) (fun c9 => absurd ht c9)
  refine lv_iload hx hb dL_law_368 (lv_at hl 1 rfl) ?_
  refine lv_if_ne (tgt := 385) hx hb dL_law_370 (by decide) (fun _ => ?_) (fun c8 => ?_)
  · refine lv_goto (tgt := 1714) hx hb dL_law_385 (by decide) ?_
    exact next H locs ls hW hS (lv_sub hl [2, 3, 4, 5, 6] rfl)
  · refine lv_aload_n hx hb dL_law_373 rfl (lv_at hl 5 rfl) ?_
    refine lv_iconst (v := 0) hx hb dL_law_374 (by decide) ?_
    refine r_lald hx hb hK hW dL_law_375 ?_
    refine lv_iload hx hb dL_law_376 (lv_at hl 0 rfl) ?_
    refine lv_i2l hx hb dL_law_378 rfl ?_
    refine W.lcmp hx hb dL_law_379 ?_
    refine lv_if_eq (tgt := 385) hx hb dL_law_380 (by decide) (fun _ => ?_) (fun c9 => absurd (by rw [hv c8]; simp [lg_cmp]) c9)
    refine lv_goto (tgt := 1714) hx hb dL_law_385 (by decide) ?_
    exact next H locs ls hW hS (lv_sub hl [2, 3, 4, 5, 6] rfl)
set_option maxRecDepth 100000 in
set_option maxHeartbeats 4000000 in
theorem law_3 {p : Program} {l : Launch} {e : Env} {s : State} {mi : MethodId} {args : Array Value} {below : List Frame} {meth : Method} {c : Code} {H : Heap} {locs : List Loc} {cells slots : Nat} {Q : State → Prop} {ls : Array Slot} {E : TE} {b L i : Nat} {xs : Nat → Int32} {x m x1 m1 : XS} {g o o1 : Int64} {kv bb : Int32} (hx : p.tables.exec = Jvm.exec) (hb : c.code = cL_law) (hml : c.maxLocals = 9) (hown : s.vm.findClass RL = some mi.cls) (hB : ∀ w ∈ BG, w.before args s = true) (hK : Ks E s) (hX : va_X b L xs s s.heap) (hbl : b < s.heap.size) (hbA : ¬ Ah E b) (hL : L ≤ 2560) (hi : i + 5 ≤ L) (hcap : cells + 1 ≤ 601024 ∧ slots + 6 ≤ 7293033) (hw : MW l E yL_set cL_set 5 [(0, 10, 13, 13), (0, 10, 17, 15)] 9 [rf E 0, .int (xs (i + 1)), .int (xs (i + 2)), rf E 217] (Wd E x m g o) (Wd E x1 m g o1) (some (.int kv))) (hm : f_X5_set m (xs (i + 1)) (xs (i + 2)) = some (bb, m1)) (ht : m1 0 6 = kv) (hv : kv = 0 → o1 = bb.toInt64) (hW : Wd E x m g o H) (hS : va_S (Ah E) s.heap H locs) (hl : lv_has ls 9 [(0, .ref b), (1, rf E 0), (2, rf E 211), (3, rf E 217), (4, .int (nI i))])
    (next : ∀ (H : Heap) (locs : List Loc) (ls : Array Slot), Wd E x1 m1 g o1 H → va_S (Ah E) s.heap H locs → lv_has ls 9 [(0, .ref b), (1, rf E 0), (2, rf E 211), (3, rf E 217), (4, .int (nI i))] → W p l e room_1 s mi args below meth c H locs (cells + 1) (slots + 6) Q (F0 mi 1714 ls [])) : W p l e room_1 s mi args below meth c H locs cells slots Q (F0 mi 388 ls []) := by
  obtain ⟨hc1, hc2⟩ := hcap
  have hcap : cells + 1 ≤ 601024 ∧ slots + 6 ≤ 7293033 := ⟨hc1, hc2⟩
  refine lv_aload_n hx hb dL_law_388 rfl (lv_at hl 1 rfl) ?_
  refine lv_aload_n hx hb dL_law_389 rfl (lv_at hl 0 rfl) ?_
  refine lv_iload hx hb dL_law_390 (lv_at hl 4 rfl) ?_
  refine lv_iconst (v := 1) hx hb dL_law_392 (by decide) ?_
  refine lv_iadd hx hb dL_law_393 ?_
  refine lv_nm (v := nI (i + 1)) (nI_add i 1).symm ?_
  refine r_scr hx hb hX hbl hbA hS hL (k := i + 1) (by omega) dL_law_394 ?_
  refine lv_aload_n hx hb dL_law_395 rfl (lv_at hl 0 rfl) ?_
  refine lv_iload hx hb dL_law_396 (lv_at hl 4 rfl) ?_
  refine lv_iconst (v := 2) hx hb dL_law_398 (by decide) ?_
  refine lv_iadd hx hb dL_law_399 ?_
  refine lv_nm (v := nI (i + 2)) (nI_add i 2).symm ?_
  refine r_scr hx hb hX hbl hbA hS hL (k := i + 2) (by omega) dL_law_400 ?_
  refine lv_aload_n hx hb dL_law_401 rfl (lv_at hl 3 rfl) ?_
  refine c_SW (As := [rf E 0, .int (xs (i + 1)), .int (xs (i + 2)), rf E 217]) (rest := []) (st1 := [.int kv]) hw (kl_106 hB ⟨Nat.le_of_ble_eq_true rfl, Nat.le_of_ble_eq_true rfl⟩) hx hb hml hown hB hK hW hS hcap rfl hl.1 rfl (Nat.le_of_ble_eq_true rfl) rfl dL_law_402 (fun H locs hW hS => ?_)
  refine lv_istore (lv' := [(5, .int kv), (0, .ref b), (1, rf E 0), (2, rf E 211), (3, rf E 217), (4, .int (nI i))]) hx hb dL_law_405 hl (by decide) rfl (fun ls hl => ?_)
  refine lv_aload_n hx hb dL_law_407 rfl (lv_at hl 3 rfl) ?_
  refine lv_aload_n hx hb dL_law_408 rfl (lv_at hl 1 rfl) ?_
  refine lv_iload hx hb dL_law_409 (lv_at hl 5 rfl) ?_
  refine lv_iconst (v := 1) hx hb dL_law_411 (by decide) ?_
  refine lv_iadd hx hb dL_law_412 ?_
  refine lv_nm (v := nI (i + 1)) (nI_add i 1).symm ?_
  refine r_scr hx hb hX hbl hbA hS hL (k := i + 1) (by omega) dL_law_413 ?_
  refine lv_aload_n hx hb dL_law_414 rfl (lv_at hl 1 rfl) ?_
  refine lv_iload hx hb dL_law_415 (lv_at hl 5 rfl) ?_
  refine lv_iconst (v := 2) hx hb dL_law_417 (by decide) ?_
  refine lv_iadd hx hb dL_law_418 ?_
  refine lv_nm (v := nI (i + 2)) (nI_add i 2).symm ?_
  refine r_scr hx hb hX hbl hbA hS hL (k := i + 2) (by omega) dL_law_419 ?_
  refine c_V (As := [.int (xs (i + 1)), .int (xs (i + 2))]) (st1 := [.int bb]) (rest := []) (p_X5_set l E x1 m g o1 hm) (kl_108 hB ⟨Nat.le_of_ble_eq_true rfl, Nat.le_of_ble_eq_true rfl⟩) (Wd.rec hK hW (by decide) cM_0 (ci := 5) rfl) hx hb hml hown hB hK hW hS hcap rfl hl.1 rfl (Nat.le_of_ble_eq_true rfl) rfl dL_law_420 (fun H locs hW hS => ?_)
  refine lv_istore (lv' := [(6, .int bb), (5, .int kv), (0, .ref b), (1, rf E 0), (2, rf E 211), (3, rf E 217), (4, .int (nI i))]) hx hb dL_law_423 hl (by decide) rfl (fun ls hl => ?_)
  refine lv_aload_n hx hb dL_law_425 rfl (lv_at hl 4 rfl) ?_
  refine c_V (As := []) (st1 := [.int (m1 0 6)]) (rest := []) (p_X5_thrown l E x1 m1 g o1 rfl) (kl_96 hB ⟨Nat.le_of_ble_eq_true rfl, Nat.le_of_ble_eq_true rfl⟩) (Wd.rec hK hW (by decide) cM_0 (ci := 5) rfl) hx hb hml hown hB hK hW hS hcap rfl hl.1 rfl (Nat.le_of_ble_eq_true rfl) rfl dL_law_426 (fun H locs hW hS => ?_)
  refine lv_iload hx hb dL_law_429 (lv_at hl 1 rfl) ?_
  refine lv_icmp_eq (tgt := 436) hx hb dL_law_431 (by decide) (fun _ => ?_) (fun c9 => absurd ht c9)
  refine lv_iload hx hb dL_law_436 (lv_at hl 1 rfl) ?_
  refine lv_if_ne (tgt := 453) hx hb dL_law_438 (by decide) (fun _ => ?_) (fun c8 => ?_)
  · refine lv_goto (tgt := 1714) hx hb dL_law_453 (by decide) ?_
    exact next H locs ls hW hS (lv_sub hl [2, 3, 4, 5, 6] rfl)
  · refine lv_aload_n hx hb dL_law_441 rfl (lv_at hl 5 rfl) ?_
    refine lv_iconst (v := 0) hx hb dL_law_442 (by decide) ?_
    refine r_lald hx hb hK hW dL_law_443 ?_
    refine lv_iload hx hb dL_law_444 (lv_at hl 0 rfl) ?_
    refine lv_i2l hx hb dL_law_446 rfl ?_
    refine W.lcmp hx hb dL_law_447 ?_
    refine lv_if_eq (tgt := 453) hx hb dL_law_448 (by decide) (fun _ => ?_) (fun c9 => absurd (by rw [hv c8]; simp [lg_cmp]) c9)
    refine lv_goto (tgt := 1714) hx hb dL_law_453 (by decide) ?_
    exact next H locs ls hW hS (lv_sub hl [2, 3, 4, 5, 6] rfl)
set_option maxRecDepth 100000 in
set_option maxHeartbeats 4000000 in
theorem law_4 {p : Program} {l : Launch} {e : Env} {s : State} {mi : MethodId} {args : Array Value} {below : List Frame} {meth : Method} {c : Code} {H : Heap} {locs : List Loc} {cells slots : Nat} {Q : State → Prop} {ls : Array Slot} {E : TE} {b L i : Nat} {xs : Nat → Int32} {x m x1 m1 : XS} {g o o1 : Int64} {kv bb : Int32} (hx : p.tables.exec = Jvm.exec) (hb : c.code = cL_law) (hml : c.maxLocals = 9) (hown : s.vm.findClass RL = some mi.cls) (hB : ∀ w ∈ BG, w.before args s = true) (hK : Ks E s) (hX : va_X b L xs s s.heap) (hbl : b < s.heap.size) (hbA : ¬ Ah E b) (hL : L ≤ 2560) (hi : i + 5 ≤ L) (hcap : cells + 1 ≤ 601024 ∧ slots + 6 ≤ 7293033) (hw : MW l E yL_complain cL_complain 6 [(0, 12, 15, 13), (0, 12, 19, 15), (0, 12, 23, 17)] 9 [rf E 0, .int (xs (i + 1)), .int (xs (i + 2)), .int (xs (i + 3)), rf E 217] (Wd E x m g o) (Wd E x1 m g o1) (some (.int kv))) (hm : f_X5_complain m (xs (i + 1)) (xs (i + 2)) (xs (i + 3)) = some (bb, m1)) (ht : m1 0 6 = kv) (hv : kv = 0 → o1 = bb.toInt64) (hW : Wd E x m g o H) (hS : va_S (Ah E) s.heap H locs) (hl : lv_has ls 9 [(0, .ref b), (1, rf E 0), (2, rf E 211), (3, rf E 217), (4, .int (nI i))])
    (next : ∀ (H : Heap) (locs : List Loc) (ls : Array Slot), Wd E x1 m1 g o1 H → va_S (Ah E) s.heap H locs → lv_has ls 9 [(0, .ref b), (1, rf E 0), (2, rf E 211), (3, rf E 217), (4, .int (nI i))] → W p l e room_1 s mi args below meth c H locs (cells + 1) (slots + 6) Q (F0 mi 1714 ls [])) : W p l e room_1 s mi args below meth c H locs cells slots Q (F0 mi 456 ls []) := by
  obtain ⟨hc1, hc2⟩ := hcap
  have hcap : cells + 1 ≤ 601024 ∧ slots + 6 ≤ 7293033 := ⟨hc1, hc2⟩
  refine lv_aload_n hx hb dL_law_456 rfl (lv_at hl 1 rfl) ?_
  refine lv_aload_n hx hb dL_law_457 rfl (lv_at hl 0 rfl) ?_
  refine lv_iload hx hb dL_law_458 (lv_at hl 4 rfl) ?_
  refine lv_iconst (v := 1) hx hb dL_law_460 (by decide) ?_
  refine lv_iadd hx hb dL_law_461 ?_
  refine lv_nm (v := nI (i + 1)) (nI_add i 1).symm ?_
  refine r_scr hx hb hX hbl hbA hS hL (k := i + 1) (by omega) dL_law_462 ?_
  refine lv_aload_n hx hb dL_law_463 rfl (lv_at hl 0 rfl) ?_
  refine lv_iload hx hb dL_law_464 (lv_at hl 4 rfl) ?_
  refine lv_iconst (v := 2) hx hb dL_law_466 (by decide) ?_
  refine lv_iadd hx hb dL_law_467 ?_
  refine lv_nm (v := nI (i + 2)) (nI_add i 2).symm ?_
  refine r_scr hx hb hX hbl hbA hS hL (k := i + 2) (by omega) dL_law_468 ?_
  refine lv_aload_n hx hb dL_law_469 rfl (lv_at hl 0 rfl) ?_
  refine lv_iload hx hb dL_law_470 (lv_at hl 4 rfl) ?_
  refine lv_iconst (v := 3) hx hb dL_law_472 (by decide) ?_
  refine lv_iadd hx hb dL_law_473 ?_
  refine lv_nm (v := nI (i + 3)) (nI_add i 3).symm ?_
  refine r_scr hx hb hX hbl hbA hS hL (k := i + 3) (by omega) dL_law_474 ?_
  refine lv_aload_n hx hb dL_law_475 rfl (lv_at hl 3 rfl) ?_
  refine c_SW (As := [rf E 0, .int (xs (i + 1)), .int (xs (i + 2)), .int (xs (i + 3)), rf E 217]) (rest := []) (st1 := [.int kv]) hw (kl_109 hB ⟨Nat.le_of_ble_eq_true rfl, Nat.le_of_ble_eq_true rfl⟩) hx hb hml hown hB hK hW hS hcap rfl hl.1 rfl (Nat.le_of_ble_eq_true rfl) rfl dL_law_476 (fun H locs hW hS => ?_)
  refine lv_istore (lv' := [(5, .int kv), (0, .ref b), (1, rf E 0), (2, rf E 211), (3, rf E 217), (4, .int (nI i))]) hx hb dL_law_479 hl (by decide) rfl (fun ls hl => ?_)
  refine lv_aload_n hx hb dL_law_481 rfl (lv_at hl 3 rfl) ?_
  refine lv_aload_n hx hb dL_law_482 rfl (lv_at hl 1 rfl) ?_
  refine lv_iload hx hb dL_law_483 (lv_at hl 5 rfl) ?_
  refine lv_iconst (v := 1) hx hb dL_law_485 (by decide) ?_
  refine lv_iadd hx hb dL_law_486 ?_
  refine lv_nm (v := nI (i + 1)) (nI_add i 1).symm ?_
  refine r_scr hx hb hX hbl hbA hS hL (k := i + 1) (by omega) dL_law_487 ?_
  refine lv_aload_n hx hb dL_law_488 rfl (lv_at hl 1 rfl) ?_
  refine lv_iload hx hb dL_law_489 (lv_at hl 5 rfl) ?_
  refine lv_iconst (v := 2) hx hb dL_law_491 (by decide) ?_
  refine lv_iadd hx hb dL_law_492 ?_
  refine lv_nm (v := nI (i + 2)) (nI_add i 2).symm ?_
  refine r_scr hx hb hX hbl hbA hS hL (k := i + 2) (by omega) dL_law_493 ?_
  refine lv_aload_n hx hb dL_law_494 rfl (lv_at hl 1 rfl) ?_
  refine lv_iload hx hb dL_law_495 (lv_at hl 5 rfl) ?_
  refine lv_iconst (v := 3) hx hb dL_law_497 (by decide) ?_
  refine lv_iadd hx hb dL_law_498 ?_
  refine lv_nm (v := nI (i + 3)) (nI_add i 3).symm ?_
  refine r_scr hx hb hX hbl hbA hS hL (k := i + 3) (by omega) dL_law_499 ?_
  refine c_V (As := [.int (xs (i + 1)), .int (xs (i + 2)), .int (xs (i + 3))]) (st1 := [.int bb]) (rest := []) (p_X5_complain l E x1 m g o1 hm) (kl_112 hB ⟨Nat.le_of_ble_eq_true rfl, Nat.le_of_ble_eq_true rfl⟩) (Wd.rec hK hW (by decide) cM_0 (ci := 5) rfl) hx hb hml hown hB hK hW hS hcap rfl hl.1 rfl (Nat.le_of_ble_eq_true rfl) rfl dL_law_500 (fun H locs hW hS => ?_)
  refine lv_istore (lv' := [(6, .int bb), (5, .int kv), (0, .ref b), (1, rf E 0), (2, rf E 211), (3, rf E 217), (4, .int (nI i))]) hx hb dL_law_503 hl (by decide) rfl (fun ls hl => ?_)
  refine lv_aload_n hx hb dL_law_505 rfl (lv_at hl 4 rfl) ?_
  refine c_V (As := []) (st1 := [.int (m1 0 6)]) (rest := []) (p_X5_thrown l E x1 m1 g o1 rfl) (kl_96 hB ⟨Nat.le_of_ble_eq_true rfl, Nat.le_of_ble_eq_true rfl⟩) (Wd.rec hK hW (by decide) cM_0 (ci := 5) rfl) hx hb hml hown hB hK hW hS hcap rfl hl.1 rfl (Nat.le_of_ble_eq_true rfl) rfl dL_law_506 (fun H locs hW hS => ?_)
  refine lv_iload hx hb dL_law_509 (lv_at hl 1 rfl) ?_
  refine lv_icmp_eq (tgt := 516) hx hb dL_law_511 (by decide) (fun _ => ?_) (fun c9 => absurd ht c9)
  refine lv_iload hx hb dL_law_516 (lv_at hl 1 rfl) ?_
  refine lv_if_ne (tgt := 533) hx hb dL_law_518 (by decide) (fun _ => ?_) (fun c8 => ?_)
  · refine lv_goto (tgt := 1714) hx hb dL_law_533 (by decide) ?_
    exact next H locs ls hW hS (lv_sub hl [2, 3, 4, 5, 6] rfl)
  · refine lv_aload_n hx hb dL_law_521 rfl (lv_at hl 5 rfl) ?_
    refine lv_iconst (v := 0) hx hb dL_law_522 (by decide) ?_
    refine r_lald hx hb hK hW dL_law_523 ?_
    refine lv_iload hx hb dL_law_524 (lv_at hl 0 rfl) ?_
    refine lv_i2l hx hb dL_law_526 rfl ?_
    refine W.lcmp hx hb dL_law_527 ?_
    refine lv_if_eq (tgt := 533) hx hb dL_law_528 (by decide) (fun _ => ?_) (fun c9 => absurd (by rw [hv c8]; simp [lg_cmp]) c9)
    refine lv_goto (tgt := 1714) hx hb dL_law_533 (by decide) ?_
    exact next H locs ls hW hS (lv_sub hl [2, 3, 4, 5, 6] rfl)
set_option maxRecDepth 100000 in
set_option maxHeartbeats 4000000 in
theorem law_5 {p : Program} {l : Launch} {e : Env} {s : State} {mi : MethodId} {args : Array Value} {below : List Frame} {meth : Method} {c : Code} {H : Heap} {locs : List Loc} {cells slots : Nat} {Q : State → Prop} {ls : Array Slot} {E : TE} {b L i : Nat} {xs : Nat → Int32} {x m x1 m1 : XS} {g o o1 : Int64} {kv bb : Int32} (hx : p.tables.exec = Jvm.exec) (hb : c.code = cL_law) (hml : c.maxLocals = 9) (hown : s.vm.findClass RL = some mi.cls) (hB : ∀ w ∈ BG, w.before args s = true) (hK : Ks E s) (hX : va_X b L xs s s.heap) (hbl : b < s.heap.size) (hbA : ¬ Ah E b) (hL : L ≤ 2560) (hi : i + 5 ≤ L) (hcap : cells + 1 ≤ 601024 ∧ slots + 6 ≤ 7293033) (hw : MW l E yL_decide cL_decide 6 [(0, 12, 15, 13), (0, 12, 19, 15), (0, 12, 23, 17)] 9 [rf E 0, .int (xs (i + 1)), .int (xs (i + 2)), .int (xs (i + 3)), rf E 217] (Wd E x m g o) (Wd E x1 m g o1) (some (.int kv))) (hm : f_X5_decide m (xs (i + 1)) (xs (i + 2)) (xs (i + 3)) = some (bb, m1)) (ht : m1 0 6 = kv) (hv : kv = 0 → o1 = bb.toInt64) (hW : Wd E x m g o H) (hS : va_S (Ah E) s.heap H locs) (hl : lv_has ls 9 [(0, .ref b), (1, rf E 0), (2, rf E 211), (3, rf E 217), (4, .int (nI i))])
    (next : ∀ (H : Heap) (locs : List Loc) (ls : Array Slot), Wd E x1 m1 g o1 H → va_S (Ah E) s.heap H locs → lv_has ls 9 [(0, .ref b), (1, rf E 0), (2, rf E 211), (3, rf E 217), (4, .int (nI i))] → W p l e room_1 s mi args below meth c H locs (cells + 1) (slots + 6) Q (F0 mi 1714 ls [])) : W p l e room_1 s mi args below meth c H locs cells slots Q (F0 mi 536 ls []) := by
  obtain ⟨hc1, hc2⟩ := hcap
  have hcap : cells + 1 ≤ 601024 ∧ slots + 6 ≤ 7293033 := ⟨hc1, hc2⟩
  refine lv_aload_n hx hb dL_law_536 rfl (lv_at hl 1 rfl) ?_
  refine lv_aload_n hx hb dL_law_537 rfl (lv_at hl 0 rfl) ?_
  refine lv_iload hx hb dL_law_538 (lv_at hl 4 rfl) ?_
  refine lv_iconst (v := 1) hx hb dL_law_540 (by decide) ?_
  refine lv_iadd hx hb dL_law_541 ?_
  refine lv_nm (v := nI (i + 1)) (nI_add i 1).symm ?_
  refine r_scr hx hb hX hbl hbA hS hL (k := i + 1) (by omega) dL_law_542 ?_
  refine lv_aload_n hx hb dL_law_543 rfl (lv_at hl 0 rfl) ?_
  refine lv_iload hx hb dL_law_544 (lv_at hl 4 rfl) ?_
  refine lv_iconst (v := 2) hx hb dL_law_546 (by decide) ?_
  refine lv_iadd hx hb dL_law_547 ?_
  refine lv_nm (v := nI (i + 2)) (nI_add i 2).symm ?_
  refine r_scr hx hb hX hbl hbA hS hL (k := i + 2) (by omega) dL_law_548 ?_
  refine lv_aload_n hx hb dL_law_549 rfl (lv_at hl 0 rfl) ?_
  refine lv_iload hx hb dL_law_550 (lv_at hl 4 rfl) ?_
  refine lv_iconst (v := 3) hx hb dL_law_552 (by decide) ?_
  refine lv_iadd hx hb dL_law_553 ?_
  refine lv_nm (v := nI (i + 3)) (nI_add i 3).symm ?_
  refine r_scr hx hb hX hbl hbA hS hL (k := i + 3) (by omega) dL_law_554 ?_
  refine lv_aload_n hx hb dL_law_555 rfl (lv_at hl 3 rfl) ?_
  refine c_SW (As := [rf E 0, .int (xs (i + 1)), .int (xs (i + 2)), .int (xs (i + 3)), rf E 217]) (rest := []) (st1 := [.int kv]) hw (kl_113 hB ⟨Nat.le_of_ble_eq_true rfl, Nat.le_of_ble_eq_true rfl⟩) hx hb hml hown hB hK hW hS hcap rfl hl.1 rfl (Nat.le_of_ble_eq_true rfl) rfl dL_law_556 (fun H locs hW hS => ?_)
  refine lv_istore (lv' := [(5, .int kv), (0, .ref b), (1, rf E 0), (2, rf E 211), (3, rf E 217), (4, .int (nI i))]) hx hb dL_law_559 hl (by decide) rfl (fun ls hl => ?_)
  refine lv_aload_n hx hb dL_law_561 rfl (lv_at hl 3 rfl) ?_
  refine lv_aload_n hx hb dL_law_562 rfl (lv_at hl 1 rfl) ?_
  refine lv_iload hx hb dL_law_563 (lv_at hl 5 rfl) ?_
  refine lv_iconst (v := 1) hx hb dL_law_565 (by decide) ?_
  refine lv_iadd hx hb dL_law_566 ?_
  refine lv_nm (v := nI (i + 1)) (nI_add i 1).symm ?_
  refine r_scr hx hb hX hbl hbA hS hL (k := i + 1) (by omega) dL_law_567 ?_
  refine lv_aload_n hx hb dL_law_568 rfl (lv_at hl 1 rfl) ?_
  refine lv_iload hx hb dL_law_569 (lv_at hl 5 rfl) ?_
  refine lv_iconst (v := 2) hx hb dL_law_571 (by decide) ?_
  refine lv_iadd hx hb dL_law_572 ?_
  refine lv_nm (v := nI (i + 2)) (nI_add i 2).symm ?_
  refine r_scr hx hb hX hbl hbA hS hL (k := i + 2) (by omega) dL_law_573 ?_
  refine lv_aload_n hx hb dL_law_574 rfl (lv_at hl 1 rfl) ?_
  refine lv_iload hx hb dL_law_575 (lv_at hl 5 rfl) ?_
  refine lv_iconst (v := 3) hx hb dL_law_577 (by decide) ?_
  refine lv_iadd hx hb dL_law_578 ?_
  refine lv_nm (v := nI (i + 3)) (nI_add i 3).symm ?_
  refine r_scr hx hb hX hbl hbA hS hL (k := i + 3) (by omega) dL_law_579 ?_
  refine c_V (As := [.int (xs (i + 1)), .int (xs (i + 2)), .int (xs (i + 3))]) (st1 := [.int bb]) (rest := []) (p_X5_decide l E x1 m g o1 hm) (kl_115 hB ⟨Nat.le_of_ble_eq_true rfl, Nat.le_of_ble_eq_true rfl⟩) (Wd.rec hK hW (by decide) cM_0 (ci := 5) rfl) hx hb hml hown hB hK hW hS hcap rfl hl.1 rfl (Nat.le_of_ble_eq_true rfl) rfl dL_law_580 (fun H locs hW hS => ?_)
  refine lv_istore (lv' := [(6, .int bb), (5, .int kv), (0, .ref b), (1, rf E 0), (2, rf E 211), (3, rf E 217), (4, .int (nI i))]) hx hb dL_law_583 hl (by decide) rfl (fun ls hl => ?_)
  refine lv_aload_n hx hb dL_law_585 rfl (lv_at hl 4 rfl) ?_
  refine c_V (As := []) (st1 := [.int (m1 0 6)]) (rest := []) (p_X5_thrown l E x1 m1 g o1 rfl) (kl_96 hB ⟨Nat.le_of_ble_eq_true rfl, Nat.le_of_ble_eq_true rfl⟩) (Wd.rec hK hW (by decide) cM_0 (ci := 5) rfl) hx hb hml hown hB hK hW hS hcap rfl hl.1 rfl (Nat.le_of_ble_eq_true rfl) rfl dL_law_586 (fun H locs hW hS => ?_)
  refine lv_iload hx hb dL_law_589 (lv_at hl 1 rfl) ?_
  refine lv_icmp_eq (tgt := 596) hx hb dL_law_591 (by decide) (fun _ => ?_) (fun c9 => absurd ht c9)
  refine lv_iload hx hb dL_law_596 (lv_at hl 1 rfl) ?_
  refine lv_if_ne (tgt := 613) hx hb dL_law_598 (by decide) (fun _ => ?_) (fun c8 => ?_)
  · refine lv_goto (tgt := 1714) hx hb dL_law_613 (by decide) ?_
    exact next H locs ls hW hS (lv_sub hl [2, 3, 4, 5, 6] rfl)
  · refine lv_aload_n hx hb dL_law_601 rfl (lv_at hl 5 rfl) ?_
    refine lv_iconst (v := 0) hx hb dL_law_602 (by decide) ?_
    refine r_lald hx hb hK hW dL_law_603 ?_
    refine lv_iload hx hb dL_law_604 (lv_at hl 0 rfl) ?_
    refine lv_i2l hx hb dL_law_606 rfl ?_
    refine W.lcmp hx hb dL_law_607 ?_
    refine lv_if_eq (tgt := 613) hx hb dL_law_608 (by decide) (fun _ => ?_) (fun c9 => absurd (by rw [hv c8]; simp [lg_cmp]) c9)
    refine lv_goto (tgt := 1714) hx hb dL_law_613 (by decide) ?_
    exact next H locs ls hW hS (lv_sub hl [2, 3, 4, 5, 6] rfl)
set_option maxRecDepth 100000 in
set_option maxHeartbeats 4000000 in
theorem law_6 {p : Program} {l : Launch} {e : Env} {s : State} {mi : MethodId} {args : Array Value} {below : List Frame} {meth : Method} {c : Code} {H : Heap} {locs : List Loc} {cells slots : Nat} {Q : State → Prop} {ls : Array Slot} {E : TE} {b L i : Nat} {xs : Nat → Int32} {x m x1 m1 : XS} {g o o1 : Int64} {kv bb : Int32} (hx : p.tables.exec = Jvm.exec) (hb : c.code = cL_law) (hml : c.maxLocals = 9) (hown : s.vm.findClass RL = some mi.cls) (hB : ∀ w ∈ BG, w.before args s = true) (hK : Ks E s) (hX : va_X b L xs s s.heap) (hbl : b < s.heap.size) (hbA : ¬ Ah E b) (hL : L ≤ 2560) (hi : i + 5 ≤ L) (hcap : cells + 1 ≤ 601024 ∧ slots + 6 ≤ 7293033) (hw : MW l E yL_appeal cL_appeal 4 [(0, 9, 12, 13), (0, 9, 15, 17)] 9 [rf E 0, .int (xs (i + 1)), rf E 217] (Wd E x m g o) (Wd E x1 m g o1) (some (.int kv))) (hm : f_X5_appeal m (xs (i + 1)) = some (bb, m1)) (ht : m1 0 6 = kv) (hv : kv = 0 → o1 = bb.toInt64) (hW : Wd E x m g o H) (hS : va_S (Ah E) s.heap H locs) (hl : lv_has ls 9 [(0, .ref b), (1, rf E 0), (2, rf E 211), (3, rf E 217), (4, .int (nI i))])
    (next : ∀ (H : Heap) (locs : List Loc) (ls : Array Slot), Wd E x1 m1 g o1 H → va_S (Ah E) s.heap H locs → lv_has ls 9 [(0, .ref b), (1, rf E 0), (2, rf E 211), (3, rf E 217), (4, .int (nI i))] → W p l e room_1 s mi args below meth c H locs (cells + 1) (slots + 6) Q (F0 mi 1714 ls [])) : W p l e room_1 s mi args below meth c H locs cells slots Q (F0 mi 616 ls []) := by
  obtain ⟨hc1, hc2⟩ := hcap
  have hcap : cells + 1 ≤ 601024 ∧ slots + 6 ≤ 7293033 := ⟨hc1, hc2⟩
  refine lv_aload_n hx hb dL_law_616 rfl (lv_at hl 1 rfl) ?_
  refine lv_aload_n hx hb dL_law_617 rfl (lv_at hl 0 rfl) ?_
  refine lv_iload hx hb dL_law_618 (lv_at hl 4 rfl) ?_
  refine lv_iconst (v := 1) hx hb dL_law_620 (by decide) ?_
  refine lv_iadd hx hb dL_law_621 ?_
  refine lv_nm (v := nI (i + 1)) (nI_add i 1).symm ?_
  refine r_scr hx hb hX hbl hbA hS hL (k := i + 1) (by omega) dL_law_622 ?_
  refine lv_aload_n hx hb dL_law_623 rfl (lv_at hl 3 rfl) ?_
  refine c_SW (As := [rf E 0, .int (xs (i + 1)), rf E 217]) (rest := []) (st1 := [.int kv]) hw (kl_116 hB ⟨Nat.le_of_ble_eq_true rfl, Nat.le_of_ble_eq_true rfl⟩) hx hb hml hown hB hK hW hS hcap rfl hl.1 rfl (Nat.le_of_ble_eq_true rfl) rfl dL_law_624 (fun H locs hW hS => ?_)
  refine lv_istore (lv' := [(5, .int kv), (0, .ref b), (1, rf E 0), (2, rf E 211), (3, rf E 217), (4, .int (nI i))]) hx hb dL_law_627 hl (by decide) rfl (fun ls hl => ?_)
  refine lv_aload_n hx hb dL_law_629 rfl (lv_at hl 3 rfl) ?_
  refine lv_aload_n hx hb dL_law_630 rfl (lv_at hl 1 rfl) ?_
  refine lv_iload hx hb dL_law_631 (lv_at hl 5 rfl) ?_
  refine lv_iconst (v := 1) hx hb dL_law_633 (by decide) ?_
  refine lv_iadd hx hb dL_law_634 ?_
  refine lv_nm (v := nI (i + 1)) (nI_add i 1).symm ?_
  refine r_scr hx hb hX hbl hbA hS hL (k := i + 1) (by omega) dL_law_635 ?_
  refine c_V (As := [.int (xs (i + 1))]) (st1 := [.int bb]) (rest := []) (p_X5_appeal l E x1 m g o1 hm) (kl_119 hB ⟨Nat.le_of_ble_eq_true rfl, Nat.le_of_ble_eq_true rfl⟩) (Wd.rec hK hW (by decide) cM_0 (ci := 5) rfl) hx hb hml hown hB hK hW hS hcap rfl hl.1 rfl (Nat.le_of_ble_eq_true rfl) rfl dL_law_636 (fun H locs hW hS => ?_)
  refine lv_istore (lv' := [(6, .int bb), (5, .int kv), (0, .ref b), (1, rf E 0), (2, rf E 211), (3, rf E 217), (4, .int (nI i))]) hx hb dL_law_639 hl (by decide) rfl (fun ls hl => ?_)
  refine lv_aload_n hx hb dL_law_641 rfl (lv_at hl 4 rfl) ?_
  refine c_V (As := []) (st1 := [.int (m1 0 6)]) (rest := []) (p_X5_thrown l E x1 m1 g o1 rfl) (kl_96 hB ⟨Nat.le_of_ble_eq_true rfl, Nat.le_of_ble_eq_true rfl⟩) (Wd.rec hK hW (by decide) cM_0 (ci := 5) rfl) hx hb hml hown hB hK hW hS hcap rfl hl.1 rfl (Nat.le_of_ble_eq_true rfl) rfl dL_law_642 (fun H locs hW hS => ?_)
  refine lv_iload hx hb dL_law_645 (lv_at hl 1 rfl) ?_
  refine lv_icmp_eq (tgt := 652) hx hb dL_law_647 (by decide) (fun _ => ?_) (fun c9 => absurd ht c9)
  refine lv_iload hx hb dL_law_652 (lv_at hl 1 rfl) ?_
  refine lv_if_ne (tgt := 669) hx hb dL_law_654 (by decide) (fun _ => ?_) (fun c8 => ?_)
  · refine lv_goto (tgt := 1714) hx hb dL_law_669 (by decide) ?_
    exact next H locs ls hW hS (lv_sub hl [2, 3, 4, 5, 6] rfl)
  · refine lv_aload_n hx hb dL_law_657 rfl (lv_at hl 5 rfl) ?_
    refine lv_iconst (v := 0) hx hb dL_law_658 (by decide) ?_
    refine r_lald hx hb hK hW dL_law_659 ?_
    refine lv_iload hx hb dL_law_660 (lv_at hl 0 rfl) ?_
    refine lv_i2l hx hb dL_law_662 rfl ?_
    refine W.lcmp hx hb dL_law_663 ?_
    refine lv_if_eq (tgt := 669) hx hb dL_law_664 (by decide) (fun _ => ?_) (fun c9 => absurd (by rw [hv c8]; simp [lg_cmp]) c9)
    refine lv_goto (tgt := 1714) hx hb dL_law_669 (by decide) ?_
    exact next H locs ls hW hS (lv_sub hl [2, 3, 4, 5, 6] rfl)
set_option maxRecDepth 100000 in
set_option maxHeartbeats 4000000 in
theorem law_7 {p : Program} {l : Launch} {e : Env} {s : State} {mi : MethodId} {args : Array Value} {below : List Frame} {meth : Method} {c : Code} {H : Heap} {locs : List Loc} {cells slots : Nat} {Q : State → Prop} {ls : Array Slot} {E : TE} {b L i : Nat} {xs : Nat → Int32} {x m x1 m1 : XS} {g o o1 : Int64} {kv bb : Int32} (hx : p.tables.exec = Jvm.exec) (hb : c.code = cL_law) (hml : c.maxLocals = 9) (hown : s.vm.findClass RL = some mi.cls) (hB : ∀ w ∈ BG, w.before args s = true) (hK : Ks E s) (hX : va_X b L xs s s.heap) (hbl : b < s.heap.size) (hbA : ¬ Ah E b) (hL : L ≤ 2560) (hi : i + 5 ≤ L) (hcap : cells + 1 ≤ 601024 ∧ slots + 6 ≤ 7293033) (hw : MW l E yL_judge cL_judge 5 [(0, 10, 13, 13), (0, 10, 17, 17)] 9 [rf E 0, .int (xs (i + 1)), .int (xs (i + 2)), rf E 217] (Wd E x m g o) (Wd E x1 m g o1) (some (.int kv))) (hm : f_X5_judge m (xs (i + 1)) (xs (i + 2)) = some (bb, m1)) (ht : m1 0 6 = kv) (hv : kv = 0 → o1 = bb.toInt64) (hW : Wd E x m g o H) (hS : va_S (Ah E) s.heap H locs) (hl : lv_has ls 9 [(0, .ref b), (1, rf E 0), (2, rf E 211), (3, rf E 217), (4, .int (nI i))])
    (next : ∀ (H : Heap) (locs : List Loc) (ls : Array Slot), Wd E x1 m1 g o1 H → va_S (Ah E) s.heap H locs → lv_has ls 9 [(0, .ref b), (1, rf E 0), (2, rf E 211), (3, rf E 217), (4, .int (nI i))] → W p l e room_1 s mi args below meth c H locs (cells + 1) (slots + 6) Q (F0 mi 1714 ls [])) : W p l e room_1 s mi args below meth c H locs cells slots Q (F0 mi 672 ls []) := by
  obtain ⟨hc1, hc2⟩ := hcap
  have hcap : cells + 1 ≤ 601024 ∧ slots + 6 ≤ 7293033 := ⟨hc1, hc2⟩
  refine lv_aload_n hx hb dL_law_672 rfl (lv_at hl 1 rfl) ?_
  refine lv_aload_n hx hb dL_law_673 rfl (lv_at hl 0 rfl) ?_
  refine lv_iload hx hb dL_law_674 (lv_at hl 4 rfl) ?_
  refine lv_iconst (v := 1) hx hb dL_law_676 (by decide) ?_
  refine lv_iadd hx hb dL_law_677 ?_
  refine lv_nm (v := nI (i + 1)) (nI_add i 1).symm ?_
  refine r_scr hx hb hX hbl hbA hS hL (k := i + 1) (by omega) dL_law_678 ?_
  refine lv_aload_n hx hb dL_law_679 rfl (lv_at hl 0 rfl) ?_
  refine lv_iload hx hb dL_law_680 (lv_at hl 4 rfl) ?_
  refine lv_iconst (v := 2) hx hb dL_law_682 (by decide) ?_
  refine lv_iadd hx hb dL_law_683 ?_
  refine lv_nm (v := nI (i + 2)) (nI_add i 2).symm ?_
  refine r_scr hx hb hX hbl hbA hS hL (k := i + 2) (by omega) dL_law_684 ?_
  refine lv_aload_n hx hb dL_law_685 rfl (lv_at hl 3 rfl) ?_
  refine c_SW (As := [rf E 0, .int (xs (i + 1)), .int (xs (i + 2)), rf E 217]) (rest := []) (st1 := [.int kv]) hw (kl_120 hB ⟨Nat.le_of_ble_eq_true rfl, Nat.le_of_ble_eq_true rfl⟩) hx hb hml hown hB hK hW hS hcap rfl hl.1 rfl (Nat.le_of_ble_eq_true rfl) rfl dL_law_686 (fun H locs hW hS => ?_)
  refine lv_istore (lv' := [(5, .int kv), (0, .ref b), (1, rf E 0), (2, rf E 211), (3, rf E 217), (4, .int (nI i))]) hx hb dL_law_689 hl (by decide) rfl (fun ls hl => ?_)
  refine lv_aload_n hx hb dL_law_691 rfl (lv_at hl 3 rfl) ?_
  refine lv_aload_n hx hb dL_law_692 rfl (lv_at hl 1 rfl) ?_
  refine lv_iload hx hb dL_law_693 (lv_at hl 5 rfl) ?_
  refine lv_iconst (v := 1) hx hb dL_law_695 (by decide) ?_
  refine lv_iadd hx hb dL_law_696 ?_
  refine lv_nm (v := nI (i + 1)) (nI_add i 1).symm ?_
  refine r_scr hx hb hX hbl hbA hS hL (k := i + 1) (by omega) dL_law_697 ?_
  refine lv_aload_n hx hb dL_law_698 rfl (lv_at hl 1 rfl) ?_
  refine lv_iload hx hb dL_law_699 (lv_at hl 5 rfl) ?_
  refine lv_iconst (v := 2) hx hb dL_law_701 (by decide) ?_
  refine lv_iadd hx hb dL_law_702 ?_
  refine lv_nm (v := nI (i + 2)) (nI_add i 2).symm ?_
  refine r_scr hx hb hX hbl hbA hS hL (k := i + 2) (by omega) dL_law_703 ?_
  refine c_V (As := [.int (xs (i + 1)), .int (xs (i + 2))]) (st1 := [.int bb]) (rest := []) (p_X5_judge l E x1 m g o1 hm) (kl_122 hB ⟨Nat.le_of_ble_eq_true rfl, Nat.le_of_ble_eq_true rfl⟩) (Wd.rec hK hW (by decide) cM_0 (ci := 5) rfl) hx hb hml hown hB hK hW hS hcap rfl hl.1 rfl (Nat.le_of_ble_eq_true rfl) rfl dL_law_704 (fun H locs hW hS => ?_)
  refine lv_istore (lv' := [(6, .int bb), (5, .int kv), (0, .ref b), (1, rf E 0), (2, rf E 211), (3, rf E 217), (4, .int (nI i))]) hx hb dL_law_707 hl (by decide) rfl (fun ls hl => ?_)
  refine lv_aload_n hx hb dL_law_709 rfl (lv_at hl 4 rfl) ?_
  refine c_V (As := []) (st1 := [.int (m1 0 6)]) (rest := []) (p_X5_thrown l E x1 m1 g o1 rfl) (kl_96 hB ⟨Nat.le_of_ble_eq_true rfl, Nat.le_of_ble_eq_true rfl⟩) (Wd.rec hK hW (by decide) cM_0 (ci := 5) rfl) hx hb hml hown hB hK hW hS hcap rfl hl.1 rfl (Nat.le_of_ble_eq_true rfl) rfl dL_law_710 (fun H locs hW hS => ?_)
  refine lv_iload hx hb dL_law_713 (lv_at hl 1 rfl) ?_
  refine lv_icmp_eq (tgt := 720) hx hb dL_law_715 (by decide) (fun _ => ?_) (fun c9 => absurd ht c9)
  refine lv_iload hx hb dL_law_720 (lv_at hl 1 rfl) ?_
  refine lv_if_ne (tgt := 737) hx hb dL_law_722 (by decide) (fun _ => ?_) (fun c8 => ?_)
  · refine lv_goto (tgt := 1714) hx hb dL_law_737 (by decide) ?_
    exact next H locs ls hW hS (lv_sub hl [2, 3, 4, 5, 6] rfl)
  · refine lv_aload_n hx hb dL_law_725 rfl (lv_at hl 5 rfl) ?_
    refine lv_iconst (v := 0) hx hb dL_law_726 (by decide) ?_
    refine r_lald hx hb hK hW dL_law_727 ?_
    refine lv_iload hx hb dL_law_728 (lv_at hl 0 rfl) ?_
    refine lv_i2l hx hb dL_law_730 rfl ?_
    refine W.lcmp hx hb dL_law_731 ?_
    refine lv_if_eq (tgt := 737) hx hb dL_law_732 (by decide) (fun _ => ?_) (fun c9 => absurd (by rw [hv c8]; simp [lg_cmp]) c9)
    refine lv_goto (tgt := 1714) hx hb dL_law_737 (by decide) ?_
    exact next H locs ls hW hS (lv_sub hl [2, 3, 4, 5, 6] rfl)
set_option maxRecDepth 100000 in
set_option maxHeartbeats 4000000 in
theorem law_8 {p : Program} {l : Launch} {e : Env} {s : State} {mi : MethodId} {args : Array Value} {below : List Frame} {meth : Method} {c : Code} {H : Heap} {locs : List Loc} {cells slots : Nat} {Q : State → Prop} {ls : Array Slot} {E : TE} {b L i : Nat} {xs : Nat → Int32} {x m x1 m1 : XS} {g o o1 : Int64} {kv bb : Int32} (hx : p.tables.exec = Jvm.exec) (hb : c.code = cL_law) (hml : c.maxLocals = 9) (hown : s.vm.findClass RL = some mi.cls) (hB : ∀ w ∈ BG, w.before args s = true) (hK : Ks E s) (hX : va_X b L xs s s.heap) (hbl : b < s.heap.size) (hbA : ¬ Ah E b) (hL : L ≤ 2560) (hi : i + 5 ≤ L) (hcap : cells + 1 ≤ 601024 ∧ slots + 6 ≤ 7293033) (hw : MW l E yL_closeMonth cL_closeMonth 3 [(0, 8, 11, 17)] 9 [rf E 0, rf E 217] (Wd E x m g o) (Wd E x1 m g o1) (some (.int kv))) (hm : f_X5_closeMonth m = some (bb, m1)) (ht : m1 0 6 = kv) (hv : kv = 0 → o1 = bb.toInt64) (hW : Wd E x m g o H) (hS : va_S (Ah E) s.heap H locs) (hl : lv_has ls 9 [(0, .ref b), (1, rf E 0), (2, rf E 211), (3, rf E 217), (4, .int (nI i))])
    (next : ∀ (H : Heap) (locs : List Loc) (ls : Array Slot), Wd E x1 m1 g o1 H → va_S (Ah E) s.heap H locs → lv_has ls 9 [(0, .ref b), (1, rf E 0), (2, rf E 211), (3, rf E 217), (4, .int (nI i))] → W p l e room_1 s mi args below meth c H locs (cells + 1) (slots + 6) Q (F0 mi 1714 ls [])) : W p l e room_1 s mi args below meth c H locs cells slots Q (F0 mi 740 ls []) := by
  obtain ⟨hc1, hc2⟩ := hcap
  have hcap : cells + 1 ≤ 601024 ∧ slots + 6 ≤ 7293033 := ⟨hc1, hc2⟩
  refine lv_aload_n hx hb dL_law_740 rfl (lv_at hl 1 rfl) ?_
  refine lv_aload_n hx hb dL_law_741 rfl (lv_at hl 3 rfl) ?_
  refine c_SW (As := [rf E 0, rf E 217]) (rest := []) (st1 := [.int kv]) hw (kl_123 hB ⟨Nat.le_of_ble_eq_true rfl, Nat.le_of_ble_eq_true rfl⟩) hx hb hml hown hB hK hW hS hcap rfl hl.1 rfl (Nat.le_of_ble_eq_true rfl) rfl dL_law_742 (fun H locs hW hS => ?_)
  refine lv_istore (lv' := [(5, .int kv), (0, .ref b), (1, rf E 0), (2, rf E 211), (3, rf E 217), (4, .int (nI i))]) hx hb dL_law_745 hl (by decide) rfl (fun ls hl => ?_)
  refine lv_aload_n hx hb dL_law_747 rfl (lv_at hl 3 rfl) ?_
  refine c_V (As := []) (st1 := [.int bb]) (rest := []) (p_X5_closeMonth l E x1 m g o1 hm) (kl_126 hB ⟨Nat.le_of_ble_eq_true rfl, Nat.le_of_ble_eq_true rfl⟩) (Wd.rec hK hW (by decide) cM_0 (ci := 5) rfl) hx hb hml hown hB hK hW hS hcap rfl hl.1 rfl (Nat.le_of_ble_eq_true rfl) rfl dL_law_748 (fun H locs hW hS => ?_)
  refine lv_istore (lv' := [(6, .int bb), (5, .int kv), (0, .ref b), (1, rf E 0), (2, rf E 211), (3, rf E 217), (4, .int (nI i))]) hx hb dL_law_751 hl (by decide) rfl (fun ls hl => ?_)
  refine lv_aload_n hx hb dL_law_753 rfl (lv_at hl 4 rfl) ?_
  refine c_V (As := []) (st1 := [.int (m1 0 6)]) (rest := []) (p_X5_thrown l E x1 m1 g o1 rfl) (kl_96 hB ⟨Nat.le_of_ble_eq_true rfl, Nat.le_of_ble_eq_true rfl⟩) (Wd.rec hK hW (by decide) cM_0 (ci := 5) rfl) hx hb hml hown hB hK hW hS hcap rfl hl.1 rfl (Nat.le_of_ble_eq_true rfl) rfl dL_law_754 (fun H locs hW hS => ?_)
  refine lv_iload hx hb dL_law_757 (lv_at hl 1 rfl) ?_
  refine lv_icmp_eq (tgt := 764) hx hb dL_law_759 (by decide) (fun _ => ?_) (fun c9 => absurd ht c9)
  refine lv_iload hx hb dL_law_764 (lv_at hl 1 rfl) ?_
  refine lv_if_ne (tgt := 781) hx hb dL_law_766 (by decide) (fun _ => ?_) (fun c8 => ?_)
  · refine lv_goto (tgt := 1714) hx hb dL_law_781 (by decide) ?_
    exact next H locs ls hW hS (lv_sub hl [2, 3, 4, 5, 6] rfl)
  · refine lv_aload_n hx hb dL_law_769 rfl (lv_at hl 5 rfl) ?_
    refine lv_iconst (v := 0) hx hb dL_law_770 (by decide) ?_
    refine r_lald hx hb hK hW dL_law_771 ?_
    refine lv_iload hx hb dL_law_772 (lv_at hl 0 rfl) ?_
    refine lv_i2l hx hb dL_law_774 rfl ?_
    refine W.lcmp hx hb dL_law_775 ?_
    refine lv_if_eq (tgt := 781) hx hb dL_law_776 (by decide) (fun _ => ?_) (fun c9 => absurd (by rw [hv c8]; simp [lg_cmp]) c9)
    refine lv_goto (tgt := 1714) hx hb dL_law_781 (by decide) ?_
    exact next H locs ls hW hS (lv_sub hl [2, 3, 4, 5, 6] rfl)
set_option maxRecDepth 100000 in
set_option maxHeartbeats 4000000 in
theorem law_9 {p : Program} {l : Launch} {e : Env} {s : State} {mi : MethodId} {args : Array Value} {below : List Frame} {meth : Method} {c : Code} {H : Heap} {locs : List Loc} {cells slots : Nat} {Q : State → Prop} {ls : Array Slot} {E : TE} {b L i : Nat} {xs : Nat → Int32} {x m x1 m1 : XS} {g o o1 : Int64} {kv bb : Int32} (hx : p.tables.exec = Jvm.exec) (hb : c.code = cL_law) (hml : c.maxLocals = 9) (hown : s.vm.findClass RL = some mi.cls) (hB : ∀ w ∈ BG, w.before args s = true) (hK : Ks E s) (hX : va_X b L xs s s.heap) (hbl : b < s.heap.size) (hbA : ¬ Ah E b) (hL : L ≤ 2560) (hi : i + 5 ≤ L) (hcap : cells + 1 ≤ 601024 ∧ slots + 6 ≤ 7293033) (hw : MW l E yL_append cL_append 4 [(0, 9, 12, 15), (0, 9, 15, 17)] 9 [rf E 0, .int (xs (i + 1)), rf E 217] (Wd E x m g o) (Wd E x1 m g o1) (some (.int kv))) (hm : f_X5_append m (xs (i + 1)) = some (bb, m1)) (ht : m1 0 6 = kv) (hv : kv = 0 → o1 = bb.toInt64) (hW : Wd E x m g o H) (hS : va_S (Ah E) s.heap H locs) (hl : lv_has ls 9 [(0, .ref b), (1, rf E 0), (2, rf E 211), (3, rf E 217), (4, .int (nI i))])
    (next : ∀ (H : Heap) (locs : List Loc) (ls : Array Slot), Wd E x1 m1 g o1 H → va_S (Ah E) s.heap H locs → lv_has ls 9 [(0, .ref b), (1, rf E 0), (2, rf E 211), (3, rf E 217), (4, .int (nI i))] → W p l e room_1 s mi args below meth c H locs (cells + 1) (slots + 6) Q (F0 mi 1714 ls [])) : W p l e room_1 s mi args below meth c H locs cells slots Q (F0 mi 784 ls []) := by
  obtain ⟨hc1, hc2⟩ := hcap
  have hcap : cells + 1 ≤ 601024 ∧ slots + 6 ≤ 7293033 := ⟨hc1, hc2⟩
  refine lv_aload_n hx hb dL_law_784 rfl (lv_at hl 1 rfl) ?_
  refine lv_aload_n hx hb dL_law_785 rfl (lv_at hl 0 rfl) ?_
  refine lv_iload hx hb dL_law_786 (lv_at hl 4 rfl) ?_
  refine lv_iconst (v := 1) hx hb dL_law_788 (by decide) ?_
  refine lv_iadd hx hb dL_law_789 ?_
  refine lv_nm (v := nI (i + 1)) (nI_add i 1).symm ?_
  refine r_scr hx hb hX hbl hbA hS hL (k := i + 1) (by omega) dL_law_790 ?_
  refine lv_aload_n hx hb dL_law_791 rfl (lv_at hl 3 rfl) ?_
  refine c_SW (As := [rf E 0, .int (xs (i + 1)), rf E 217]) (rest := []) (st1 := [.int kv]) hw (kl_127 hB ⟨Nat.le_of_ble_eq_true rfl, Nat.le_of_ble_eq_true rfl⟩) hx hb hml hown hB hK hW hS hcap rfl hl.1 rfl (Nat.le_of_ble_eq_true rfl) rfl dL_law_792 (fun H locs hW hS => ?_)
  refine lv_istore (lv' := [(5, .int kv), (0, .ref b), (1, rf E 0), (2, rf E 211), (3, rf E 217), (4, .int (nI i))]) hx hb dL_law_795 hl (by decide) rfl (fun ls hl => ?_)
  refine lv_aload_n hx hb dL_law_797 rfl (lv_at hl 3 rfl) ?_
  refine lv_aload_n hx hb dL_law_798 rfl (lv_at hl 1 rfl) ?_
  refine lv_iload hx hb dL_law_799 (lv_at hl 5 rfl) ?_
  refine lv_iconst (v := 1) hx hb dL_law_801 (by decide) ?_
  refine lv_iadd hx hb dL_law_802 ?_
  refine lv_nm (v := nI (i + 1)) (nI_add i 1).symm ?_
  refine r_scr hx hb hX hbl hbA hS hL (k := i + 1) (by omega) dL_law_803 ?_
  refine c_V (As := [.int (xs (i + 1))]) (st1 := [.int bb]) (rest := []) (p_X5_append l E x1 m g o1 hm) (kl_129 hB ⟨Nat.le_of_ble_eq_true rfl, Nat.le_of_ble_eq_true rfl⟩) (Wd.rec hK hW (by decide) cM_0 (ci := 5) rfl) hx hb hml hown hB hK hW hS hcap rfl hl.1 rfl (Nat.le_of_ble_eq_true rfl) rfl dL_law_804 (fun H locs hW hS => ?_)
  refine lv_istore (lv' := [(6, .int bb), (5, .int kv), (0, .ref b), (1, rf E 0), (2, rf E 211), (3, rf E 217), (4, .int (nI i))]) hx hb dL_law_807 hl (by decide) rfl (fun ls hl => ?_)
  refine lv_aload_n hx hb dL_law_809 rfl (lv_at hl 4 rfl) ?_
  refine c_V (As := []) (st1 := [.int (m1 0 6)]) (rest := []) (p_X5_thrown l E x1 m1 g o1 rfl) (kl_96 hB ⟨Nat.le_of_ble_eq_true rfl, Nat.le_of_ble_eq_true rfl⟩) (Wd.rec hK hW (by decide) cM_0 (ci := 5) rfl) hx hb hml hown hB hK hW hS hcap rfl hl.1 rfl (Nat.le_of_ble_eq_true rfl) rfl dL_law_810 (fun H locs hW hS => ?_)
  refine lv_iload hx hb dL_law_813 (lv_at hl 1 rfl) ?_
  refine lv_icmp_eq (tgt := 820) hx hb dL_law_815 (by decide) (fun _ => ?_) (fun c9 => absurd ht c9)
  refine lv_iload hx hb dL_law_820 (lv_at hl 1 rfl) ?_
  refine lv_if_ne (tgt := 837) hx hb dL_law_822 (by decide) (fun _ => ?_) (fun c8 => ?_)
  · refine lv_goto (tgt := 1714) hx hb dL_law_837 (by decide) ?_
    exact next H locs ls hW hS (lv_sub hl [2, 3, 4, 5, 6] rfl)
  · refine lv_aload_n hx hb dL_law_825 rfl (lv_at hl 5 rfl) ?_
    refine lv_iconst (v := 0) hx hb dL_law_826 (by decide) ?_
    refine r_lald hx hb hK hW dL_law_827 ?_
    refine lv_iload hx hb dL_law_828 (lv_at hl 0 rfl) ?_
    refine lv_i2l hx hb dL_law_830 rfl ?_
    refine W.lcmp hx hb dL_law_831 ?_
    refine lv_if_eq (tgt := 837) hx hb dL_law_832 (by decide) (fun _ => ?_) (fun c9 => absurd (by rw [hv c8]; simp [lg_cmp]) c9)
    refine lv_goto (tgt := 1714) hx hb dL_law_837 (by decide) ?_
    exact next H locs ls hW hS (lv_sub hl [2, 3, 4, 5, 6] rfl)
set_option maxRecDepth 100000 in
set_option maxHeartbeats 4000000 in
theorem law_10 {p : Program} {l : Launch} {e : Env} {s : State} {mi : MethodId} {args : Array Value} {below : List Frame} {meth : Method} {c : Code} {H : Heap} {locs : List Loc} {cells slots : Nat} {Q : State → Prop} {ls : Array Slot} {E : TE} {b L i : Nat} {xs : Nat → Int32} {x m x1 m1 : XS} {g o : Int64} {r bb : Int32} (hx : p.tables.exec = Jvm.exec) (hb : c.code = cL_law) (hml : c.maxLocals = 9) (hown : s.vm.findClass RL = some mi.cls) (hB : ∀ w ∈ BG, w.before args s = true) (hK : Ks E s) (hX : va_X b L xs s s.heap) (hbl : b < s.heap.size) (hbA : ¬ Ah E b) (hL : L ≤ 2560) (hi : i + 5 ≤ L) (hcap0 : cells ≤ 601024 ∧ slots ≤ 7293033) (hf : f_X4_clearBuffer x = some (r, x1)) (hm : f_X5_clearBuffer m = some (bb, m1)) (heq : r = bb) (hW : Wd E x m g o H) (hS : va_S (Ah E) s.heap H locs) (hl : lv_has ls 9 [(0, .ref b), (1, rf E 0), (2, rf E 211), (3, rf E 217), (4, .int (nI i))])
    (next : ∀ (H : Heap) (locs : List Loc) (ls : Array Slot), Wd E x1 m1 g o H → va_S (Ah E) s.heap H locs → lv_has ls 9 [(0, .ref b), (1, rf E 0), (2, rf E 211), (3, rf E 217), (4, .int (nI i))] → W p l e room_1 s mi args below meth c H locs cells slots Q (F0 mi 1714 ls [])) : W p l e room_1 s mi args below meth c H locs cells slots Q (F0 mi 840 ls []) := by
  refine lv_aload_n hx hb dL_law_840 rfl (lv_at hl 1 rfl) ?_
  refine c_V (As := []) (st1 := [.int r]) (rest := []) (p_X4_clearBuffer l E x m g o hf) (kl_130 hB ⟨Nat.le_of_ble_eq_true rfl, Nat.le_of_ble_eq_true rfl⟩) (Wd.rec hK hW (by decide) cX_0 (ci := 4) rfl) hx hb hml hown hB hK hW hS hcap0 rfl hl.1 rfl (Nat.le_of_ble_eq_true rfl) rfl dL_law_841 (fun H locs hW hS => ?_)
  refine lv_aload_n hx hb dL_law_844 rfl (lv_at hl 2 rfl) ?_
  refine c_V (As := []) (st1 := [.int bb, .int r]) (rest := [.int r]) (p_X5_clearBuffer l E x1 m g o hm) (kl_133 hB ⟨Nat.le_of_ble_eq_true rfl, Nat.le_of_ble_eq_true rfl⟩) (Wd.rec hK hW (by decide) cM_0 (ci := 5) rfl) hx hb hml hown hB hK hW hS hcap0 rfl hl.1 rfl (Nat.le_of_ble_eq_true rfl) rfl dL_law_845 (fun H locs hW hS => ?_)
  refine lv_icmp_eq (tgt := 1714) hx hb dL_law_848 (by decide) (fun _ => ?_) (fun c9 => absurd heq c9)
  exact next H locs ls hW hS (lv_sub hl [0, 1, 2, 3, 4] rfl)
set_option maxRecDepth 100000 in
set_option maxHeartbeats 4000000 in
theorem law_11 {p : Program} {l : Launch} {e : Env} {s : State} {mi : MethodId} {args : Array Value} {below : List Frame} {meth : Method} {c : Code} {H : Heap} {locs : List Loc} {cells slots : Nat} {Q : State → Prop} {ls : Array Slot} {E : TE} {b L i : Nat} {xs : Nat → Int32} {x m m1 : XS} {g o : Int64} {r bb : Int32} (hx : p.tables.exec = Jvm.exec) (hb : c.code = cL_law) (hml : c.maxLocals = 9) (hown : s.vm.findClass RL = some mi.cls) (hB : ∀ w ∈ BG, w.before args s = true) (hK : Ks E s) (hX : va_X b L xs s s.heap) (hbl : b < s.heap.size) (hbA : ¬ Ah E b) (hL : L ≤ 2560) (hi : i + 5 ≤ L) (hcap0 : cells ≤ 601024 ∧ slots ≤ 7293033) (hf : f_X4_firstError x = some r) (hm : f_X5_firstError m = some (bb, m1)) (heq : r = bb) (hW : Wd E x m g o H) (hS : va_S (Ah E) s.heap H locs) (hl : lv_has ls 9 [(0, .ref b), (1, rf E 0), (2, rf E 211), (3, rf E 217), (4, .int (nI i))])
    (next : ∀ (H : Heap) (locs : List Loc) (ls : Array Slot), Wd E x m1 g o H → va_S (Ah E) s.heap H locs → lv_has ls 9 [(0, .ref b), (1, rf E 0), (2, rf E 211), (3, rf E 217), (4, .int (nI i))] → W p l e room_1 s mi args below meth c H locs cells slots Q (F0 mi 1714 ls [])) : W p l e room_1 s mi args below meth c H locs cells slots Q (F0 mi 853 ls []) := by
  refine lv_aload_n hx hb dL_law_853 rfl (lv_at hl 1 rfl) ?_
  refine c_V (As := []) (st1 := [.int r]) (rest := []) (p_X4_firstError l E x m g o hf) (kl_134 hB ⟨Nat.le_of_ble_eq_true rfl, Nat.le_of_ble_eq_true rfl⟩) (Wd.rec hK hW (by decide) cX_0 (ci := 4) rfl) hx hb hml hown hB hK hW hS hcap0 rfl hl.1 rfl (Nat.le_of_ble_eq_true rfl) rfl dL_law_854 (fun H locs hW hS => ?_)
  refine lv_aload_n hx hb dL_law_857 rfl (lv_at hl 2 rfl) ?_
  refine c_V (As := []) (st1 := [.int bb, .int r]) (rest := [.int r]) (p_X5_firstError l E x m g o hm) (kl_137 hB ⟨Nat.le_of_ble_eq_true rfl, Nat.le_of_ble_eq_true rfl⟩) (Wd.rec hK hW (by decide) cM_0 (ci := 5) rfl) hx hb hml hown hB hK hW hS hcap0 rfl hl.1 rfl (Nat.le_of_ble_eq_true rfl) rfl dL_law_858 (fun H locs hW hS => ?_)
  refine lv_icmp_eq (tgt := 1714) hx hb dL_law_861 (by decide) (fun _ => ?_) (fun c9 => absurd heq c9)
  exact next H locs ls hW hS (lv_sub hl [0, 1, 2, 3, 4] rfl)
set_option maxRecDepth 100000 in
set_option maxHeartbeats 4000000 in
theorem law_12 {p : Program} {l : Launch} {e : Env} {s : State} {mi : MethodId} {args : Array Value} {below : List Frame} {meth : Method} {c : Code} {H : Heap} {locs : List Loc} {cells slots : Nat} {Q : State → Prop} {ls : Array Slot} {E : TE} {b L i : Nat} {xs : Nat → Int32} {x m x1 m1 : XS} {g o o1 : Int64} {kv bb : Int32} (hx : p.tables.exec = Jvm.exec) (hb : c.code = cL_law) (hml : c.maxLocals = 9) (hown : s.vm.findClass RL = some mi.cls) (hB : ∀ w ∈ BG, w.before args s = true) (hK : Ks E s) (hX : va_X b L xs s s.heap) (hbl : b < s.heap.size) (hbA : ¬ Ah E b) (hL : L ≤ 2560) (hi : i + 5 ≤ L) (hcap : cells + 1 ≤ 601024 ∧ slots + 6 ≤ 7293033) (hw : MW l E yL_complainAll cL_complainAll 3 [(0, 8, 11, 15), (0, 8, 14, 17)] 9 [rf E 0, rf E 217] (Wd E x m g o) (Wd E x1 m g o1) (some (.int kv))) (hm : f_X5_complainAll m = some (bb, m1)) (ht : m1 0 6 = kv) (hv : kv = 0 → o1 = bb.toInt64) (hW : Wd E x m g o H) (hS : va_S (Ah E) s.heap H locs) (hl : lv_has ls 9 [(0, .ref b), (1, rf E 0), (2, rf E 211), (3, rf E 217), (4, .int (nI i))])
    (next : ∀ (H : Heap) (locs : List Loc) (ls : Array Slot), Wd E x1 m1 g o1 H → va_S (Ah E) s.heap H locs → lv_has ls 9 [(0, .ref b), (1, rf E 0), (2, rf E 211), (3, rf E 217), (4, .int (nI i))] → W p l e room_1 s mi args below meth c H locs (cells + 1) (slots + 6) Q (F0 mi 1714 ls [])) : W p l e room_1 s mi args below meth c H locs cells slots Q (F0 mi 866 ls []) := by
  obtain ⟨hc1, hc2⟩ := hcap
  have hcap : cells + 1 ≤ 601024 ∧ slots + 6 ≤ 7293033 := ⟨hc1, hc2⟩
  refine lv_aload_n hx hb dL_law_866 rfl (lv_at hl 1 rfl) ?_
  refine lv_aload_n hx hb dL_law_867 rfl (lv_at hl 3 rfl) ?_
  refine c_SW (As := [rf E 0, rf E 217]) (rest := []) (st1 := [.int kv]) hw (kl_138 hB ⟨Nat.le_of_ble_eq_true rfl, Nat.le_of_ble_eq_true rfl⟩) hx hb hml hown hB hK hW hS hcap rfl hl.1 rfl (Nat.le_of_ble_eq_true rfl) rfl dL_law_868 (fun H locs hW hS => ?_)
  refine lv_istore (lv' := [(5, .int kv), (0, .ref b), (1, rf E 0), (2, rf E 211), (3, rf E 217), (4, .int (nI i))]) hx hb dL_law_871 hl (by decide) rfl (fun ls hl => ?_)
  refine lv_aload_n hx hb dL_law_873 rfl (lv_at hl 3 rfl) ?_
  refine c_V (As := []) (st1 := [.int bb]) (rest := []) (p_X5_complainAll l E x1 m g o1 hm) (kl_140 hB ⟨Nat.le_of_ble_eq_true rfl, Nat.le_of_ble_eq_true rfl⟩) (Wd.rec hK hW (by decide) cM_0 (ci := 5) rfl) hx hb hml hown hB hK hW hS hcap rfl hl.1 rfl (Nat.le_of_ble_eq_true rfl) rfl dL_law_874 (fun H locs hW hS => ?_)
  refine lv_istore (lv' := [(6, .int bb), (5, .int kv), (0, .ref b), (1, rf E 0), (2, rf E 211), (3, rf E 217), (4, .int (nI i))]) hx hb dL_law_877 hl (by decide) rfl (fun ls hl => ?_)
  refine lv_aload_n hx hb dL_law_879 rfl (lv_at hl 4 rfl) ?_
  refine c_V (As := []) (st1 := [.int (m1 0 6)]) (rest := []) (p_X5_thrown l E x1 m1 g o1 rfl) (kl_96 hB ⟨Nat.le_of_ble_eq_true rfl, Nat.le_of_ble_eq_true rfl⟩) (Wd.rec hK hW (by decide) cM_0 (ci := 5) rfl) hx hb hml hown hB hK hW hS hcap rfl hl.1 rfl (Nat.le_of_ble_eq_true rfl) rfl dL_law_880 (fun H locs hW hS => ?_)
  refine lv_iload hx hb dL_law_883 (lv_at hl 1 rfl) ?_
  refine lv_icmp_eq (tgt := 890) hx hb dL_law_885 (by decide) (fun _ => ?_) (fun c9 => absurd ht c9)
  refine lv_iload hx hb dL_law_890 (lv_at hl 1 rfl) ?_
  refine lv_if_ne (tgt := 907) hx hb dL_law_892 (by decide) (fun _ => ?_) (fun c8 => ?_)
  · refine lv_goto (tgt := 1714) hx hb dL_law_907 (by decide) ?_
    exact next H locs ls hW hS (lv_sub hl [2, 3, 4, 5, 6] rfl)
  · refine lv_aload_n hx hb dL_law_895 rfl (lv_at hl 5 rfl) ?_
    refine lv_iconst (v := 0) hx hb dL_law_896 (by decide) ?_
    refine r_lald hx hb hK hW dL_law_897 ?_
    refine lv_iload hx hb dL_law_898 (lv_at hl 0 rfl) ?_
    refine lv_i2l hx hb dL_law_900 rfl ?_
    refine W.lcmp hx hb dL_law_901 ?_
    refine lv_if_eq (tgt := 907) hx hb dL_law_902 (by decide) (fun _ => ?_) (fun c9 => absurd (by rw [hv c8]; simp [lg_cmp]) c9)
    refine lv_goto (tgt := 1714) hx hb dL_law_907 (by decide) ?_
    exact next H locs ls hW hS (lv_sub hl [2, 3, 4, 5, 6] rfl)
set_option maxRecDepth 100000 in
set_option maxHeartbeats 4000000 in
theorem law_13 {p : Program} {l : Launch} {e : Env} {s : State} {mi : MethodId} {args : Array Value} {below : List Frame} {meth : Method} {c : Code} {H : Heap} {locs : List Loc} {cells slots : Nat} {Q : State → Prop} {ls : Array Slot} {E : TE} {b L i : Nat} {xs : Nat → Int32} {x m x1 m1 : XS} {g o o1 : Int64} {kv bb : Int32} (hx : p.tables.exec = Jvm.exec) (hb : c.code = cL_law) (hml : c.maxLocals = 9) (hown : s.vm.findClass RL = some mi.cls) (hB : ∀ w ∈ BG, w.before args s = true) (hK : Ks E s) (hX : va_X b L xs s s.heap) (hbl : b < s.heap.size) (hbA : ¬ Ah E b) (hL : L ≤ 2560) (hi : i + 5 ≤ L) (hcap : cells + 1 ≤ 601024 ∧ slots + 6 ≤ 7293033) (hw : MW l E yL_undo cL_undo 3 [(0, 8, 11, 17)] 9 [rf E 0, rf E 217] (Wd E x m g o) (Wd E x1 m g o1) (some (.int kv))) (hm : f_X5_undo m = some (bb, m1)) (ht : m1 0 6 = kv) (hv : kv = 0 → o1 = bb.toInt64) (hW : Wd E x m g o H) (hS : va_S (Ah E) s.heap H locs) (hl : lv_has ls 9 [(0, .ref b), (1, rf E 0), (2, rf E 211), (3, rf E 217), (4, .int (nI i))])
    (next : ∀ (H : Heap) (locs : List Loc) (ls : Array Slot), Wd E x1 m1 g o1 H → va_S (Ah E) s.heap H locs → lv_has ls 9 [(0, .ref b), (1, rf E 0), (2, rf E 211), (3, rf E 217), (4, .int (nI i))] → W p l e room_1 s mi args below meth c H locs (cells + 1) (slots + 6) Q (F0 mi 1714 ls [])) : W p l e room_1 s mi args below meth c H locs cells slots Q (F0 mi 910 ls []) := by
  obtain ⟨hc1, hc2⟩ := hcap
  have hcap : cells + 1 ≤ 601024 ∧ slots + 6 ≤ 7293033 := ⟨hc1, hc2⟩
  refine lv_aload_n hx hb dL_law_910 rfl (lv_at hl 1 rfl) ?_
  refine lv_aload_n hx hb dL_law_911 rfl (lv_at hl 3 rfl) ?_
  refine c_SW (As := [rf E 0, rf E 217]) (rest := []) (st1 := [.int kv]) hw (kl_141 hB ⟨Nat.le_of_ble_eq_true rfl, Nat.le_of_ble_eq_true rfl⟩) hx hb hml hown hB hK hW hS hcap rfl hl.1 rfl (Nat.le_of_ble_eq_true rfl) rfl dL_law_912 (fun H locs hW hS => ?_)
  refine lv_istore (lv' := [(5, .int kv), (0, .ref b), (1, rf E 0), (2, rf E 211), (3, rf E 217), (4, .int (nI i))]) hx hb dL_law_915 hl (by decide) rfl (fun ls hl => ?_)
  refine lv_aload_n hx hb dL_law_917 rfl (lv_at hl 3 rfl) ?_
  refine c_V (As := []) (st1 := [.int bb]) (rest := []) (p_X5_undo l E x1 m g o1 hm) (kl_143 hB ⟨Nat.le_of_ble_eq_true rfl, Nat.le_of_ble_eq_true rfl⟩) (Wd.rec hK hW (by decide) cM_0 (ci := 5) rfl) hx hb hml hown hB hK hW hS hcap rfl hl.1 rfl (Nat.le_of_ble_eq_true rfl) rfl dL_law_918 (fun H locs hW hS => ?_)
  refine lv_istore (lv' := [(6, .int bb), (5, .int kv), (0, .ref b), (1, rf E 0), (2, rf E 211), (3, rf E 217), (4, .int (nI i))]) hx hb dL_law_921 hl (by decide) rfl (fun ls hl => ?_)
  refine lv_aload_n hx hb dL_law_923 rfl (lv_at hl 4 rfl) ?_
  refine c_V (As := []) (st1 := [.int (m1 0 6)]) (rest := []) (p_X5_thrown l E x1 m1 g o1 rfl) (kl_96 hB ⟨Nat.le_of_ble_eq_true rfl, Nat.le_of_ble_eq_true rfl⟩) (Wd.rec hK hW (by decide) cM_0 (ci := 5) rfl) hx hb hml hown hB hK hW hS hcap rfl hl.1 rfl (Nat.le_of_ble_eq_true rfl) rfl dL_law_924 (fun H locs hW hS => ?_)
  refine lv_iload hx hb dL_law_927 (lv_at hl 1 rfl) ?_
  refine lv_icmp_eq (tgt := 934) hx hb dL_law_929 (by decide) (fun _ => ?_) (fun c9 => absurd ht c9)
  refine lv_iload hx hb dL_law_934 (lv_at hl 1 rfl) ?_
  refine lv_if_ne (tgt := 951) hx hb dL_law_936 (by decide) (fun _ => ?_) (fun c8 => ?_)
  · refine lv_goto (tgt := 1714) hx hb dL_law_951 (by decide) ?_
    exact next H locs ls hW hS (lv_sub hl [2, 3, 4, 5, 6] rfl)
  · refine lv_aload_n hx hb dL_law_939 rfl (lv_at hl 5 rfl) ?_
    refine lv_iconst (v := 0) hx hb dL_law_940 (by decide) ?_
    refine r_lald hx hb hK hW dL_law_941 ?_
    refine lv_iload hx hb dL_law_942 (lv_at hl 0 rfl) ?_
    refine lv_i2l hx hb dL_law_944 rfl ?_
    refine W.lcmp hx hb dL_law_945 ?_
    refine lv_if_eq (tgt := 951) hx hb dL_law_946 (by decide) (fun _ => ?_) (fun c9 => absurd (by rw [hv c8]; simp [lg_cmp]) c9)
    refine lv_goto (tgt := 1714) hx hb dL_law_951 (by decide) ?_
    exact next H locs ls hW hS (lv_sub hl [2, 3, 4, 5, 6] rfl)
set_option maxRecDepth 100000 in
set_option maxHeartbeats 4000000 in
theorem law_14 {p : Program} {l : Launch} {e : Env} {s : State} {mi : MethodId} {args : Array Value} {below : List Frame} {meth : Method} {c : Code} {H : Heap} {locs : List Loc} {cells slots : Nat} {Q : State → Prop} {ls : Array Slot} {E : TE} {b L i : Nat} {xs : Nat → Int32} {x m x1 m1 : XS} {g o o1 : Int64} {kv bb : Int32} (hx : p.tables.exec = Jvm.exec) (hb : c.code = cL_law) (hml : c.maxLocals = 9) (hown : s.vm.findClass RL = some mi.cls) (hB : ∀ w ∈ BG, w.before args s = true) (hK : Ks E s) (hX : va_X b L xs s s.heap) (hbl : b < s.heap.size) (hbA : ¬ Ah E b) (hL : L ≤ 2560) (hi : i + 5 ≤ L) (hcap : cells + 1 ≤ 601024 ∧ slots + 6 ≤ 7293033) (hw : MW l E yL_complaint cL_complaint 5 [(0, 10, 13, 13), (0, 10, 17, 15)] 9 [rf E 0, .int (xs (i + 1)), .int (xs (i + 2)), rf E 217] (Wd E x m g o) (Wd E x1 m g o1) (some (.int kv))) (hm : f_X5_complaint m (xs (i + 1)) (xs (i + 2)) = some (bb, m1)) (ht : m1 0 6 = kv) (hv : kv = 0 → o1 = bb.toInt64) (hW : Wd E x m g o H) (hS : va_S (Ah E) s.heap H locs) (hl : lv_has ls 9 [(0, .ref b), (1, rf E 0), (2, rf E 211), (3, rf E 217), (4, .int (nI i))])
    (next : ∀ (H : Heap) (locs : List Loc) (ls : Array Slot), Wd E x1 m1 g o1 H → va_S (Ah E) s.heap H locs → lv_has ls 9 [(0, .ref b), (1, rf E 0), (2, rf E 211), (3, rf E 217), (4, .int (nI i))] → W p l e room_1 s mi args below meth c H locs (cells + 1) (slots + 6) Q (F0 mi 1714 ls [])) : W p l e room_1 s mi args below meth c H locs cells slots Q (F0 mi 954 ls []) := by
  obtain ⟨hc1, hc2⟩ := hcap
  have hcap : cells + 1 ≤ 601024 ∧ slots + 6 ≤ 7293033 := ⟨hc1, hc2⟩
  refine lv_aload_n hx hb dL_law_954 rfl (lv_at hl 1 rfl) ?_
  refine lv_aload_n hx hb dL_law_955 rfl (lv_at hl 0 rfl) ?_
  refine lv_iload hx hb dL_law_956 (lv_at hl 4 rfl) ?_
  refine lv_iconst (v := 1) hx hb dL_law_958 (by decide) ?_
  refine lv_iadd hx hb dL_law_959 ?_
  refine lv_nm (v := nI (i + 1)) (nI_add i 1).symm ?_
  refine r_scr hx hb hX hbl hbA hS hL (k := i + 1) (by omega) dL_law_960 ?_
  refine lv_aload_n hx hb dL_law_961 rfl (lv_at hl 0 rfl) ?_
  refine lv_iload hx hb dL_law_962 (lv_at hl 4 rfl) ?_
  refine lv_iconst (v := 2) hx hb dL_law_964 (by decide) ?_
  refine lv_iadd hx hb dL_law_965 ?_
  refine lv_nm (v := nI (i + 2)) (nI_add i 2).symm ?_
  refine r_scr hx hb hX hbl hbA hS hL (k := i + 2) (by omega) dL_law_966 ?_
  refine lv_aload_n hx hb dL_law_967 rfl (lv_at hl 3 rfl) ?_
  refine c_SW (As := [rf E 0, .int (xs (i + 1)), .int (xs (i + 2)), rf E 217]) (rest := []) (st1 := [.int kv]) hw (kl_144 hB ⟨Nat.le_of_ble_eq_true rfl, Nat.le_of_ble_eq_true rfl⟩) hx hb hml hown hB hK hW hS hcap rfl hl.1 rfl (Nat.le_of_ble_eq_true rfl) rfl dL_law_968 (fun H locs hW hS => ?_)
  refine lv_istore (lv' := [(5, .int kv), (0, .ref b), (1, rf E 0), (2, rf E 211), (3, rf E 217), (4, .int (nI i))]) hx hb dL_law_971 hl (by decide) rfl (fun ls hl => ?_)
  refine lv_aload_n hx hb dL_law_973 rfl (lv_at hl 3 rfl) ?_
  refine lv_aload_n hx hb dL_law_974 rfl (lv_at hl 1 rfl) ?_
  refine lv_iload hx hb dL_law_975 (lv_at hl 5 rfl) ?_
  refine lv_iconst (v := 1) hx hb dL_law_977 (by decide) ?_
  refine lv_iadd hx hb dL_law_978 ?_
  refine lv_nm (v := nI (i + 1)) (nI_add i 1).symm ?_
  refine r_scr hx hb hX hbl hbA hS hL (k := i + 1) (by omega) dL_law_979 ?_
  refine lv_aload_n hx hb dL_law_980 rfl (lv_at hl 1 rfl) ?_
  refine lv_iload hx hb dL_law_981 (lv_at hl 5 rfl) ?_
  refine lv_iconst (v := 2) hx hb dL_law_983 (by decide) ?_
  refine lv_iadd hx hb dL_law_984 ?_
  refine lv_nm (v := nI (i + 2)) (nI_add i 2).symm ?_
  refine r_scr hx hb hX hbl hbA hS hL (k := i + 2) (by omega) dL_law_985 ?_
  refine c_V (As := [.int (xs (i + 1)), .int (xs (i + 2))]) (st1 := [.int bb]) (rest := []) (p_X5_complaint l E x1 m g o1 hm) (kl_146 hB ⟨Nat.le_of_ble_eq_true rfl, Nat.le_of_ble_eq_true rfl⟩) (Wd.rec hK hW (by decide) cM_0 (ci := 5) rfl) hx hb hml hown hB hK hW hS hcap rfl hl.1 rfl (Nat.le_of_ble_eq_true rfl) rfl dL_law_986 (fun H locs hW hS => ?_)
  refine lv_istore (lv' := [(6, .int bb), (5, .int kv), (0, .ref b), (1, rf E 0), (2, rf E 211), (3, rf E 217), (4, .int (nI i))]) hx hb dL_law_989 hl (by decide) rfl (fun ls hl => ?_)
  refine lv_aload_n hx hb dL_law_991 rfl (lv_at hl 4 rfl) ?_
  refine c_V (As := []) (st1 := [.int (m1 0 6)]) (rest := []) (p_X5_thrown l E x1 m1 g o1 rfl) (kl_96 hB ⟨Nat.le_of_ble_eq_true rfl, Nat.le_of_ble_eq_true rfl⟩) (Wd.rec hK hW (by decide) cM_0 (ci := 5) rfl) hx hb hml hown hB hK hW hS hcap rfl hl.1 rfl (Nat.le_of_ble_eq_true rfl) rfl dL_law_992 (fun H locs hW hS => ?_)
  refine lv_iload hx hb dL_law_995 (lv_at hl 1 rfl) ?_
  refine lv_icmp_eq (tgt := 1002) hx hb dL_law_997 (by decide) (fun _ => ?_) (fun c9 => absurd ht c9)
  refine lv_iload hx hb dL_law_1002 (lv_at hl 1 rfl) ?_
  refine lv_if_ne (tgt := 1019) hx hb dL_law_1004 (by decide) (fun _ => ?_) (fun c8 => ?_)
  · refine lv_goto (tgt := 1714) hx hb dL_law_1019 (by decide) ?_
    exact next H locs ls hW hS (lv_sub hl [2, 3, 4, 5, 6] rfl)
  · refine lv_aload_n hx hb dL_law_1007 rfl (lv_at hl 5 rfl) ?_
    refine lv_iconst (v := 0) hx hb dL_law_1008 (by decide) ?_
    refine r_lald hx hb hK hW dL_law_1009 ?_
    refine lv_iload hx hb dL_law_1010 (lv_at hl 0 rfl) ?_
    refine lv_i2l hx hb dL_law_1012 rfl ?_
    refine W.lcmp hx hb dL_law_1013 ?_
    refine lv_if_eq (tgt := 1019) hx hb dL_law_1014 (by decide) (fun _ => ?_) (fun c9 => absurd (by rw [hv c8]; simp [lg_cmp]) c9)
    refine lv_goto (tgt := 1714) hx hb dL_law_1019 (by decide) ?_
    exact next H locs ls hW hS (lv_sub hl [2, 3, 4, 5, 6] rfl)
set_option maxRecDepth 100000 in
set_option maxHeartbeats 4000000 in
theorem law_15 {p : Program} {l : Launch} {e : Env} {s : State} {mi : MethodId} {args : Array Value} {below : List Frame} {meth : Method} {c : Code} {H : Heap} {locs : List Loc} {cells slots : Nat} {Q : State → Prop} {ls : Array Slot} {E : TE} {b L i : Nat} {xs : Nat → Int32} {x m x1 m1 : XS} {g o o1 : Int64} {kv bb : Int32} (hx : p.tables.exec = Jvm.exec) (hb : c.code = cL_law) (hml : c.maxLocals = 9) (hown : s.vm.findClass RL = some mi.cls) (hB : ∀ w ∈ BG, w.before args s = true) (hK : Ks E s) (hX : va_X b L xs s s.heap) (hbl : b < s.heap.size) (hbA : ¬ Ah E b) (hL : L ≤ 2560) (hi : i + 5 ≤ L) (hcap : cells + 1 ≤ 601024 ∧ slots + 6 ≤ 7293033) (hw : MW l E yL_amends cL_amends 6 [(0, 12, 15, 13), (0, 12, 19, 15)] 9 [rf E 0, .int (xs (i + 1)), .int (xs (i + 2)), .int (xs (i + 3)), rf E 217] (Wd E x m g o) (Wd E x1 m g o1) (some (.int kv))) (hm : f_X5_amends m (xs (i + 1)) (xs (i + 2)) (xs (i + 3)) = some (bb, m1)) (ht : m1 0 6 = kv) (hv : kv = 0 → o1 = bb.toInt64) (hW : Wd E x m g o H) (hS : va_S (Ah E) s.heap H locs) (hl : lv_has ls 9 [(0, .ref b), (1, rf E 0), (2, rf E 211), (3, rf E 217), (4, .int (nI i))])
    (next : ∀ (H : Heap) (locs : List Loc) (ls : Array Slot), Wd E x1 m1 g o1 H → va_S (Ah E) s.heap H locs → lv_has ls 9 [(0, .ref b), (1, rf E 0), (2, rf E 211), (3, rf E 217), (4, .int (nI i))] → W p l e room_1 s mi args below meth c H locs (cells + 1) (slots + 6) Q (F0 mi 1714 ls [])) : W p l e room_1 s mi args below meth c H locs cells slots Q (F0 mi 1022 ls []) := by
  obtain ⟨hc1, hc2⟩ := hcap
  have hcap : cells + 1 ≤ 601024 ∧ slots + 6 ≤ 7293033 := ⟨hc1, hc2⟩
  refine lv_aload_n hx hb dL_law_1022 rfl (lv_at hl 1 rfl) ?_
  refine lv_aload_n hx hb dL_law_1023 rfl (lv_at hl 0 rfl) ?_
  refine lv_iload hx hb dL_law_1024 (lv_at hl 4 rfl) ?_
  refine lv_iconst (v := 1) hx hb dL_law_1026 (by decide) ?_
  refine lv_iadd hx hb dL_law_1027 ?_
  refine lv_nm (v := nI (i + 1)) (nI_add i 1).symm ?_
  refine r_scr hx hb hX hbl hbA hS hL (k := i + 1) (by omega) dL_law_1028 ?_
  refine lv_aload_n hx hb dL_law_1029 rfl (lv_at hl 0 rfl) ?_
  refine lv_iload hx hb dL_law_1030 (lv_at hl 4 rfl) ?_
  refine lv_iconst (v := 2) hx hb dL_law_1032 (by decide) ?_
  refine lv_iadd hx hb dL_law_1033 ?_
  refine lv_nm (v := nI (i + 2)) (nI_add i 2).symm ?_
  refine r_scr hx hb hX hbl hbA hS hL (k := i + 2) (by omega) dL_law_1034 ?_
  refine lv_aload_n hx hb dL_law_1035 rfl (lv_at hl 0 rfl) ?_
  refine lv_iload hx hb dL_law_1036 (lv_at hl 4 rfl) ?_
  refine lv_iconst (v := 3) hx hb dL_law_1038 (by decide) ?_
  refine lv_iadd hx hb dL_law_1039 ?_
  refine lv_nm (v := nI (i + 3)) (nI_add i 3).symm ?_
  refine r_scr hx hb hX hbl hbA hS hL (k := i + 3) (by omega) dL_law_1040 ?_
  refine lv_aload_n hx hb dL_law_1041 rfl (lv_at hl 3 rfl) ?_
  refine c_SW (As := [rf E 0, .int (xs (i + 1)), .int (xs (i + 2)), .int (xs (i + 3)), rf E 217]) (rest := []) (st1 := [.int kv]) hw (kl_147 hB ⟨Nat.le_of_ble_eq_true rfl, Nat.le_of_ble_eq_true rfl⟩) hx hb hml hown hB hK hW hS hcap rfl hl.1 rfl (Nat.le_of_ble_eq_true rfl) rfl dL_law_1042 (fun H locs hW hS => ?_)
  refine lv_istore (lv' := [(5, .int kv), (0, .ref b), (1, rf E 0), (2, rf E 211), (3, rf E 217), (4, .int (nI i))]) hx hb dL_law_1045 hl (by decide) rfl (fun ls hl => ?_)
  refine lv_aload_n hx hb dL_law_1047 rfl (lv_at hl 3 rfl) ?_
  refine lv_aload_n hx hb dL_law_1048 rfl (lv_at hl 1 rfl) ?_
  refine lv_iload hx hb dL_law_1049 (lv_at hl 5 rfl) ?_
  refine lv_iconst (v := 1) hx hb dL_law_1051 (by decide) ?_
  refine lv_iadd hx hb dL_law_1052 ?_
  refine lv_nm (v := nI (i + 1)) (nI_add i 1).symm ?_
  refine r_scr hx hb hX hbl hbA hS hL (k := i + 1) (by omega) dL_law_1053 ?_
  refine lv_aload_n hx hb dL_law_1054 rfl (lv_at hl 1 rfl) ?_
  refine lv_iload hx hb dL_law_1055 (lv_at hl 5 rfl) ?_
  refine lv_iconst (v := 2) hx hb dL_law_1057 (by decide) ?_
  refine lv_iadd hx hb dL_law_1058 ?_
  refine lv_nm (v := nI (i + 2)) (nI_add i 2).symm ?_
  refine r_scr hx hb hX hbl hbA hS hL (k := i + 2) (by omega) dL_law_1059 ?_
  refine lv_aload_n hx hb dL_law_1060 rfl (lv_at hl 1 rfl) ?_
  refine lv_iload hx hb dL_law_1061 (lv_at hl 5 rfl) ?_
  refine lv_iconst (v := 3) hx hb dL_law_1063 (by decide) ?_
  refine lv_iadd hx hb dL_law_1064 ?_
  refine lv_nm (v := nI (i + 3)) (nI_add i 3).symm ?_
  refine r_scr hx hb hX hbl hbA hS hL (k := i + 3) (by omega) dL_law_1065 ?_
  refine c_V (As := [.int (xs (i + 1)), .int (xs (i + 2)), .int (xs (i + 3))]) (st1 := [.int bb]) (rest := []) (p_X5_amends l E x1 m g o1 hm) (kl_149 hB ⟨Nat.le_of_ble_eq_true rfl, Nat.le_of_ble_eq_true rfl⟩) (Wd.rec hK hW (by decide) cM_0 (ci := 5) rfl) hx hb hml hown hB hK hW hS hcap rfl hl.1 rfl (Nat.le_of_ble_eq_true rfl) rfl dL_law_1066 (fun H locs hW hS => ?_)
  refine lv_istore (lv' := [(6, .int bb), (5, .int kv), (0, .ref b), (1, rf E 0), (2, rf E 211), (3, rf E 217), (4, .int (nI i))]) hx hb dL_law_1069 hl (by decide) rfl (fun ls hl => ?_)
  refine lv_aload_n hx hb dL_law_1071 rfl (lv_at hl 4 rfl) ?_
  refine c_V (As := []) (st1 := [.int (m1 0 6)]) (rest := []) (p_X5_thrown l E x1 m1 g o1 rfl) (kl_96 hB ⟨Nat.le_of_ble_eq_true rfl, Nat.le_of_ble_eq_true rfl⟩) (Wd.rec hK hW (by decide) cM_0 (ci := 5) rfl) hx hb hml hown hB hK hW hS hcap rfl hl.1 rfl (Nat.le_of_ble_eq_true rfl) rfl dL_law_1072 (fun H locs hW hS => ?_)
  refine lv_iload hx hb dL_law_1075 (lv_at hl 1 rfl) ?_
  refine lv_icmp_eq (tgt := 1082) hx hb dL_law_1077 (by decide) (fun _ => ?_) (fun c9 => absurd ht c9)
  refine lv_iload hx hb dL_law_1082 (lv_at hl 1 rfl) ?_
  refine lv_if_ne (tgt := 1099) hx hb dL_law_1084 (by decide) (fun _ => ?_) (fun c8 => ?_)
  · refine lv_goto (tgt := 1714) hx hb dL_law_1099 (by decide) ?_
    exact next H locs ls hW hS (lv_sub hl [2, 3, 4, 5, 6] rfl)
  · refine lv_aload_n hx hb dL_law_1087 rfl (lv_at hl 5 rfl) ?_
    refine lv_iconst (v := 0) hx hb dL_law_1088 (by decide) ?_
    refine r_lald hx hb hK hW dL_law_1089 ?_
    refine lv_iload hx hb dL_law_1090 (lv_at hl 0 rfl) ?_
    refine lv_i2l hx hb dL_law_1092 rfl ?_
    refine W.lcmp hx hb dL_law_1093 ?_
    refine lv_if_eq (tgt := 1099) hx hb dL_law_1094 (by decide) (fun _ => ?_) (fun c9 => absurd (by rw [hv c8]; simp [lg_cmp]) c9)
    refine lv_goto (tgt := 1714) hx hb dL_law_1099 (by decide) ?_
    exact next H locs ls hW hS (lv_sub hl [2, 3, 4, 5, 6] rfl)
set_option maxRecDepth 100000 in
set_option maxHeartbeats 4000000 in
theorem law_16 {p : Program} {l : Launch} {e : Env} {s : State} {mi : MethodId} {args : Array Value} {below : List Frame} {meth : Method} {c : Code} {H : Heap} {locs : List Loc} {cells slots : Nat} {Q : State → Prop} {ls : Array Slot} {E : TE} {b L i : Nat} {xs : Nat → Int32} {x m x1 m1 : XS} {g o o1 : Int64} {kv bb : Int32} (hx : p.tables.exec = Jvm.exec) (hb : c.code = cL_law) (hml : c.maxLocals = 9) (hown : s.vm.findClass RL = some mi.cls) (hB : ∀ w ∈ BG, w.before args s = true) (hK : Ks E s) (hX : va_X b L xs s s.heap) (hbl : b < s.heap.size) (hbA : ¬ Ah E b) (hL : L ≤ 2560) (hi : i + 5 ≤ L) (hcap : cells + 1 ≤ 601024 ∧ slots + 6 ≤ 7293033) (hw : MW l E yL_precedent cL_precedent 6 [(0, 12, 15, 13), (0, 12, 19, 15)] 9 [rf E 0, .int (xs (i + 1)), .int (xs (i + 2)), .int (xs (i + 3)), rf E 217] (Wd E x m g o) (Wd E x1 m g o1) (some (.int kv))) (hm : f_X5_precedent m (xs (i + 1)) (xs (i + 2)) (xs (i + 3)) = some (bb, m1)) (ht : m1 0 6 = kv) (hv : kv = 0 → o1 = bb.toInt64) (hW : Wd E x m g o H) (hS : va_S (Ah E) s.heap H locs) (hl : lv_has ls 9 [(0, .ref b), (1, rf E 0), (2, rf E 211), (3, rf E 217), (4, .int (nI i))])
    (next : ∀ (H : Heap) (locs : List Loc) (ls : Array Slot), Wd E x1 m1 g o1 H → va_S (Ah E) s.heap H locs → lv_has ls 9 [(0, .ref b), (1, rf E 0), (2, rf E 211), (3, rf E 217), (4, .int (nI i))] → W p l e room_1 s mi args below meth c H locs (cells + 1) (slots + 6) Q (F0 mi 1714 ls [])) : W p l e room_1 s mi args below meth c H locs cells slots Q (F0 mi 1102 ls []) := by
  obtain ⟨hc1, hc2⟩ := hcap
  have hcap : cells + 1 ≤ 601024 ∧ slots + 6 ≤ 7293033 := ⟨hc1, hc2⟩
  refine lv_aload_n hx hb dL_law_1102 rfl (lv_at hl 1 rfl) ?_
  refine lv_aload_n hx hb dL_law_1103 rfl (lv_at hl 0 rfl) ?_
  refine lv_iload hx hb dL_law_1104 (lv_at hl 4 rfl) ?_
  refine lv_iconst (v := 1) hx hb dL_law_1106 (by decide) ?_
  refine lv_iadd hx hb dL_law_1107 ?_
  refine lv_nm (v := nI (i + 1)) (nI_add i 1).symm ?_
  refine r_scr hx hb hX hbl hbA hS hL (k := i + 1) (by omega) dL_law_1108 ?_
  refine lv_aload_n hx hb dL_law_1109 rfl (lv_at hl 0 rfl) ?_
  refine lv_iload hx hb dL_law_1110 (lv_at hl 4 rfl) ?_
  refine lv_iconst (v := 2) hx hb dL_law_1112 (by decide) ?_
  refine lv_iadd hx hb dL_law_1113 ?_
  refine lv_nm (v := nI (i + 2)) (nI_add i 2).symm ?_
  refine r_scr hx hb hX hbl hbA hS hL (k := i + 2) (by omega) dL_law_1114 ?_
  refine lv_aload_n hx hb dL_law_1115 rfl (lv_at hl 0 rfl) ?_
  refine lv_iload hx hb dL_law_1116 (lv_at hl 4 rfl) ?_
  refine lv_iconst (v := 3) hx hb dL_law_1118 (by decide) ?_
  refine lv_iadd hx hb dL_law_1119 ?_
  refine lv_nm (v := nI (i + 3)) (nI_add i 3).symm ?_
  refine r_scr hx hb hX hbl hbA hS hL (k := i + 3) (by omega) dL_law_1120 ?_
  refine lv_aload_n hx hb dL_law_1121 rfl (lv_at hl 3 rfl) ?_
  refine c_SW (As := [rf E 0, .int (xs (i + 1)), .int (xs (i + 2)), .int (xs (i + 3)), rf E 217]) (rest := []) (st1 := [.int kv]) hw (kl_150 hB ⟨Nat.le_of_ble_eq_true rfl, Nat.le_of_ble_eq_true rfl⟩) hx hb hml hown hB hK hW hS hcap rfl hl.1 rfl (Nat.le_of_ble_eq_true rfl) rfl dL_law_1122 (fun H locs hW hS => ?_)
  refine lv_istore (lv' := [(5, .int kv), (0, .ref b), (1, rf E 0), (2, rf E 211), (3, rf E 217), (4, .int (nI i))]) hx hb dL_law_1125 hl (by decide) rfl (fun ls hl => ?_)
  refine lv_aload_n hx hb dL_law_1127 rfl (lv_at hl 3 rfl) ?_
  refine lv_aload_n hx hb dL_law_1128 rfl (lv_at hl 1 rfl) ?_
  refine lv_iload hx hb dL_law_1129 (lv_at hl 5 rfl) ?_
  refine lv_iconst (v := 1) hx hb dL_law_1131 (by decide) ?_
  refine lv_iadd hx hb dL_law_1132 ?_
  refine lv_nm (v := nI (i + 1)) (nI_add i 1).symm ?_
  refine r_scr hx hb hX hbl hbA hS hL (k := i + 1) (by omega) dL_law_1133 ?_
  refine lv_aload_n hx hb dL_law_1134 rfl (lv_at hl 1 rfl) ?_
  refine lv_iload hx hb dL_law_1135 (lv_at hl 5 rfl) ?_
  refine lv_iconst (v := 2) hx hb dL_law_1137 (by decide) ?_
  refine lv_iadd hx hb dL_law_1138 ?_
  refine lv_nm (v := nI (i + 2)) (nI_add i 2).symm ?_
  refine r_scr hx hb hX hbl hbA hS hL (k := i + 2) (by omega) dL_law_1139 ?_
  refine lv_aload_n hx hb dL_law_1140 rfl (lv_at hl 1 rfl) ?_
  refine lv_iload hx hb dL_law_1141 (lv_at hl 5 rfl) ?_
  refine lv_iconst (v := 3) hx hb dL_law_1143 (by decide) ?_
  refine lv_iadd hx hb dL_law_1144 ?_
  refine lv_nm (v := nI (i + 3)) (nI_add i 3).symm ?_
  refine r_scr hx hb hX hbl hbA hS hL (k := i + 3) (by omega) dL_law_1145 ?_
  refine c_V (As := [.int (xs (i + 1)), .int (xs (i + 2)), .int (xs (i + 3))]) (st1 := [.int bb]) (rest := []) (p_X5_precedent l E x1 m g o1 hm) (kl_152 hB ⟨Nat.le_of_ble_eq_true rfl, Nat.le_of_ble_eq_true rfl⟩) (Wd.rec hK hW (by decide) cM_0 (ci := 5) rfl) hx hb hml hown hB hK hW hS hcap rfl hl.1 rfl (Nat.le_of_ble_eq_true rfl) rfl dL_law_1146 (fun H locs hW hS => ?_)
  refine lv_istore (lv' := [(6, .int bb), (5, .int kv), (0, .ref b), (1, rf E 0), (2, rf E 211), (3, rf E 217), (4, .int (nI i))]) hx hb dL_law_1149 hl (by decide) rfl (fun ls hl => ?_)
  refine lv_aload_n hx hb dL_law_1151 rfl (lv_at hl 4 rfl) ?_
  refine c_V (As := []) (st1 := [.int (m1 0 6)]) (rest := []) (p_X5_thrown l E x1 m1 g o1 rfl) (kl_96 hB ⟨Nat.le_of_ble_eq_true rfl, Nat.le_of_ble_eq_true rfl⟩) (Wd.rec hK hW (by decide) cM_0 (ci := 5) rfl) hx hb hml hown hB hK hW hS hcap rfl hl.1 rfl (Nat.le_of_ble_eq_true rfl) rfl dL_law_1152 (fun H locs hW hS => ?_)
  refine lv_iload hx hb dL_law_1155 (lv_at hl 1 rfl) ?_
  refine lv_icmp_eq (tgt := 1162) hx hb dL_law_1157 (by decide) (fun _ => ?_) (fun c9 => absurd ht c9)
  refine lv_iload hx hb dL_law_1162 (lv_at hl 1 rfl) ?_
  refine lv_if_ne (tgt := 1179) hx hb dL_law_1164 (by decide) (fun _ => ?_) (fun c8 => ?_)
  · refine lv_goto (tgt := 1714) hx hb dL_law_1179 (by decide) ?_
    exact next H locs ls hW hS (lv_sub hl [2, 3, 4, 5, 6] rfl)
  · refine lv_aload_n hx hb dL_law_1167 rfl (lv_at hl 5 rfl) ?_
    refine lv_iconst (v := 0) hx hb dL_law_1168 (by decide) ?_
    refine r_lald hx hb hK hW dL_law_1169 ?_
    refine lv_iload hx hb dL_law_1170 (lv_at hl 0 rfl) ?_
    refine lv_i2l hx hb dL_law_1172 rfl ?_
    refine W.lcmp hx hb dL_law_1173 ?_
    refine lv_if_eq (tgt := 1179) hx hb dL_law_1174 (by decide) (fun _ => ?_) (fun c9 => absurd (by rw [hv c8]; simp [lg_cmp]) c9)
    refine lv_goto (tgt := 1714) hx hb dL_law_1179 (by decide) ?_
    exact next H locs ls hW hS (lv_sub hl [2, 3, 4, 5, 6] rfl)
set_option maxRecDepth 100000 in
set_option maxHeartbeats 4000000 in
theorem law_17 {p : Program} {l : Launch} {e : Env} {s : State} {mi : MethodId} {args : Array Value} {below : List Frame} {meth : Method} {c : Code} {H : Heap} {locs : List Loc} {cells slots : Nat} {Q : State → Prop} {ls : Array Slot} {E : TE} {b L i : Nat} {xs : Nat → Int32} {x m x1 m1 : XS} {g o o1 : Int64} {kv bb : Int32} (hx : p.tables.exec = Jvm.exec) (hb : c.code = cL_law) (hml : c.maxLocals = 9) (hown : s.vm.findClass RL = some mi.cls) (hB : ∀ w ∈ BG, w.before args s = true) (hK : Ks E s) (hX : va_X b L xs s s.heap) (hbl : b < s.heap.size) (hbA : ¬ Ah E b) (hL : L ≤ 2560) (hi : i + 5 ≤ L) (hcap : cells + 1 ≤ 601024 ∧ slots + 6 ≤ 7293033) (hw : MW l E yL_kind cL_kind 5 [(0, 10, 13, 13), (0, 10, 17, 15)] 9 [rf E 0, .int (xs (i + 1)), .int (xs (i + 2)), rf E 217] (Wd E x m g o) (Wd E x1 m g o1) (some (.int kv))) (hm : f_X5_kind m (xs (i + 1)) (xs (i + 2)) = some (bb, m1)) (ht : m1 0 6 = kv) (hv : kv = 0 → o1 = bb.toInt64) (hW : Wd E x m g o H) (hS : va_S (Ah E) s.heap H locs) (hl : lv_has ls 9 [(0, .ref b), (1, rf E 0), (2, rf E 211), (3, rf E 217), (4, .int (nI i))])
    (next : ∀ (H : Heap) (locs : List Loc) (ls : Array Slot), Wd E x1 m1 g o1 H → va_S (Ah E) s.heap H locs → lv_has ls 9 [(0, .ref b), (1, rf E 0), (2, rf E 211), (3, rf E 217), (4, .int (nI i))] → W p l e room_1 s mi args below meth c H locs (cells + 1) (slots + 6) Q (F0 mi 1714 ls [])) : W p l e room_1 s mi args below meth c H locs cells slots Q (F0 mi 1182 ls []) := by
  obtain ⟨hc1, hc2⟩ := hcap
  have hcap : cells + 1 ≤ 601024 ∧ slots + 6 ≤ 7293033 := ⟨hc1, hc2⟩
  refine lv_aload_n hx hb dL_law_1182 rfl (lv_at hl 1 rfl) ?_
  refine lv_aload_n hx hb dL_law_1183 rfl (lv_at hl 0 rfl) ?_
  refine lv_iload hx hb dL_law_1184 (lv_at hl 4 rfl) ?_
  refine lv_iconst (v := 1) hx hb dL_law_1186 (by decide) ?_
  refine lv_iadd hx hb dL_law_1187 ?_
  refine lv_nm (v := nI (i + 1)) (nI_add i 1).symm ?_
  refine r_scr hx hb hX hbl hbA hS hL (k := i + 1) (by omega) dL_law_1188 ?_
  refine lv_aload_n hx hb dL_law_1189 rfl (lv_at hl 0 rfl) ?_
  refine lv_iload hx hb dL_law_1190 (lv_at hl 4 rfl) ?_
  refine lv_iconst (v := 2) hx hb dL_law_1192 (by decide) ?_
  refine lv_iadd hx hb dL_law_1193 ?_
  refine lv_nm (v := nI (i + 2)) (nI_add i 2).symm ?_
  refine r_scr hx hb hX hbl hbA hS hL (k := i + 2) (by omega) dL_law_1194 ?_
  refine lv_aload_n hx hb dL_law_1195 rfl (lv_at hl 3 rfl) ?_
  refine c_SW (As := [rf E 0, .int (xs (i + 1)), .int (xs (i + 2)), rf E 217]) (rest := []) (st1 := [.int kv]) hw (kl_153 hB ⟨Nat.le_of_ble_eq_true rfl, Nat.le_of_ble_eq_true rfl⟩) hx hb hml hown hB hK hW hS hcap rfl hl.1 rfl (Nat.le_of_ble_eq_true rfl) rfl dL_law_1196 (fun H locs hW hS => ?_)
  refine lv_istore (lv' := [(5, .int kv), (0, .ref b), (1, rf E 0), (2, rf E 211), (3, rf E 217), (4, .int (nI i))]) hx hb dL_law_1199 hl (by decide) rfl (fun ls hl => ?_)
  refine lv_aload_n hx hb dL_law_1201 rfl (lv_at hl 3 rfl) ?_
  refine lv_aload_n hx hb dL_law_1202 rfl (lv_at hl 1 rfl) ?_
  refine lv_iload hx hb dL_law_1203 (lv_at hl 5 rfl) ?_
  refine lv_iconst (v := 1) hx hb dL_law_1205 (by decide) ?_
  refine lv_iadd hx hb dL_law_1206 ?_
  refine lv_nm (v := nI (i + 1)) (nI_add i 1).symm ?_
  refine r_scr hx hb hX hbl hbA hS hL (k := i + 1) (by omega) dL_law_1207 ?_
  refine lv_aload_n hx hb dL_law_1208 rfl (lv_at hl 1 rfl) ?_
  refine lv_iload hx hb dL_law_1209 (lv_at hl 5 rfl) ?_
  refine lv_iconst (v := 2) hx hb dL_law_1211 (by decide) ?_
  refine lv_iadd hx hb dL_law_1212 ?_
  refine lv_nm (v := nI (i + 2)) (nI_add i 2).symm ?_
  refine r_scr hx hb hX hbl hbA hS hL (k := i + 2) (by omega) dL_law_1213 ?_
  refine c_V (As := [.int (xs (i + 1)), .int (xs (i + 2))]) (st1 := [.int bb]) (rest := []) (p_X5_kind l E x1 m g o1 hm) (kl_155 hB ⟨Nat.le_of_ble_eq_true rfl, Nat.le_of_ble_eq_true rfl⟩) (Wd.rec hK hW (by decide) cM_0 (ci := 5) rfl) hx hb hml hown hB hK hW hS hcap rfl hl.1 rfl (Nat.le_of_ble_eq_true rfl) rfl dL_law_1214 (fun H locs hW hS => ?_)
  refine lv_istore (lv' := [(6, .int bb), (5, .int kv), (0, .ref b), (1, rf E 0), (2, rf E 211), (3, rf E 217), (4, .int (nI i))]) hx hb dL_law_1217 hl (by decide) rfl (fun ls hl => ?_)
  refine lv_aload_n hx hb dL_law_1219 rfl (lv_at hl 4 rfl) ?_
  refine c_V (As := []) (st1 := [.int (m1 0 6)]) (rest := []) (p_X5_thrown l E x1 m1 g o1 rfl) (kl_96 hB ⟨Nat.le_of_ble_eq_true rfl, Nat.le_of_ble_eq_true rfl⟩) (Wd.rec hK hW (by decide) cM_0 (ci := 5) rfl) hx hb hml hown hB hK hW hS hcap rfl hl.1 rfl (Nat.le_of_ble_eq_true rfl) rfl dL_law_1220 (fun H locs hW hS => ?_)
  refine lv_iload hx hb dL_law_1223 (lv_at hl 1 rfl) ?_
  refine lv_icmp_eq (tgt := 1230) hx hb dL_law_1225 (by decide) (fun _ => ?_) (fun c9 => absurd ht c9)
  refine lv_iload hx hb dL_law_1230 (lv_at hl 1 rfl) ?_
  refine lv_if_ne (tgt := 1247) hx hb dL_law_1232 (by decide) (fun _ => ?_) (fun c8 => ?_)
  · refine lv_goto (tgt := 1714) hx hb dL_law_1247 (by decide) ?_
    exact next H locs ls hW hS (lv_sub hl [2, 3, 4, 5, 6] rfl)
  · refine lv_aload_n hx hb dL_law_1235 rfl (lv_at hl 5 rfl) ?_
    refine lv_iconst (v := 0) hx hb dL_law_1236 (by decide) ?_
    refine r_lald hx hb hK hW dL_law_1237 ?_
    refine lv_iload hx hb dL_law_1238 (lv_at hl 0 rfl) ?_
    refine lv_i2l hx hb dL_law_1240 rfl ?_
    refine W.lcmp hx hb dL_law_1241 ?_
    refine lv_if_eq (tgt := 1247) hx hb dL_law_1242 (by decide) (fun _ => ?_) (fun c9 => absurd (by rw [hv c8]; simp [lg_cmp]) c9)
    refine lv_goto (tgt := 1714) hx hb dL_law_1247 (by decide) ?_
    exact next H locs ls hW hS (lv_sub hl [2, 3, 4, 5, 6] rfl)
set_option maxRecDepth 100000 in
set_option maxHeartbeats 4000000 in
theorem law_18 {p : Program} {l : Launch} {e : Env} {s : State} {mi : MethodId} {args : Array Value} {below : List Frame} {meth : Method} {c : Code} {H : Heap} {locs : List Loc} {cells slots : Nat} {Q : State → Prop} {ls : Array Slot} {E : TE} {b L i : Nat} {xs : Nat → Int32} {x m x1 m1 : XS} {g o o1 : Int64} {kv bb : Int32} (hx : p.tables.exec = Jvm.exec) (hb : c.code = cL_law) (hml : c.maxLocals = 9) (hown : s.vm.findClass RL = some mi.cls) (hB : ∀ w ∈ BG, w.before args s = true) (hK : Ks E s) (hX : va_X b L xs s s.heap) (hbl : b < s.heap.size) (hbA : ¬ Ah E b) (hL : L ≤ 2560) (hi : i + 5 ≤ L) (hcap : cells + 1 ≤ 601024 ∧ slots + 6 ≤ 7293033) (hw : MW l E yL_count cL_count 4 [(0, 9, 12, 15)] 9 [rf E 0, .int (xs (i + 1)), rf E 217] (Wd E x m g o) (Wd E x1 m g o1) (some (.int kv))) (hm : f_X5_count m (xs (i + 1)) = some (bb, m1)) (ht : m1 0 6 = kv) (hv : kv = 0 → o1 = bb.toInt64) (hW : Wd E x m g o H) (hS : va_S (Ah E) s.heap H locs) (hl : lv_has ls 9 [(0, .ref b), (1, rf E 0), (2, rf E 211), (3, rf E 217), (4, .int (nI i))])
    (next : ∀ (H : Heap) (locs : List Loc) (ls : Array Slot), Wd E x1 m1 g o1 H → va_S (Ah E) s.heap H locs → lv_has ls 9 [(0, .ref b), (1, rf E 0), (2, rf E 211), (3, rf E 217), (4, .int (nI i))] → W p l e room_1 s mi args below meth c H locs (cells + 1) (slots + 6) Q (F0 mi 1714 ls [])) : W p l e room_1 s mi args below meth c H locs cells slots Q (F0 mi 1250 ls []) := by
  obtain ⟨hc1, hc2⟩ := hcap
  have hcap : cells + 1 ≤ 601024 ∧ slots + 6 ≤ 7293033 := ⟨hc1, hc2⟩
  refine lv_aload_n hx hb dL_law_1250 rfl (lv_at hl 1 rfl) ?_
  refine lv_aload_n hx hb dL_law_1251 rfl (lv_at hl 0 rfl) ?_
  refine lv_iload hx hb dL_law_1252 (lv_at hl 4 rfl) ?_
  refine lv_iconst (v := 1) hx hb dL_law_1254 (by decide) ?_
  refine lv_iadd hx hb dL_law_1255 ?_
  refine lv_nm (v := nI (i + 1)) (nI_add i 1).symm ?_
  refine r_scr hx hb hX hbl hbA hS hL (k := i + 1) (by omega) dL_law_1256 ?_
  refine lv_aload_n hx hb dL_law_1257 rfl (lv_at hl 3 rfl) ?_
  refine c_SW (As := [rf E 0, .int (xs (i + 1)), rf E 217]) (rest := []) (st1 := [.int kv]) hw (kl_156 hB ⟨Nat.le_of_ble_eq_true rfl, Nat.le_of_ble_eq_true rfl⟩) hx hb hml hown hB hK hW hS hcap rfl hl.1 rfl (Nat.le_of_ble_eq_true rfl) rfl dL_law_1258 (fun H locs hW hS => ?_)
  refine lv_istore (lv' := [(5, .int kv), (0, .ref b), (1, rf E 0), (2, rf E 211), (3, rf E 217), (4, .int (nI i))]) hx hb dL_law_1261 hl (by decide) rfl (fun ls hl => ?_)
  refine lv_aload_n hx hb dL_law_1263 rfl (lv_at hl 3 rfl) ?_
  refine lv_aload_n hx hb dL_law_1264 rfl (lv_at hl 1 rfl) ?_
  refine lv_iload hx hb dL_law_1265 (lv_at hl 5 rfl) ?_
  refine lv_iconst (v := 1) hx hb dL_law_1267 (by decide) ?_
  refine lv_iadd hx hb dL_law_1268 ?_
  refine lv_nm (v := nI (i + 1)) (nI_add i 1).symm ?_
  refine r_scr hx hb hX hbl hbA hS hL (k := i + 1) (by omega) dL_law_1269 ?_
  refine c_V (As := [.int (xs (i + 1))]) (st1 := [.int bb]) (rest := []) (p_X5_count l E x1 m g o1 hm) (kl_158 hB ⟨Nat.le_of_ble_eq_true rfl, Nat.le_of_ble_eq_true rfl⟩) (Wd.rec hK hW (by decide) cM_0 (ci := 5) rfl) hx hb hml hown hB hK hW hS hcap rfl hl.1 rfl (Nat.le_of_ble_eq_true rfl) rfl dL_law_1270 (fun H locs hW hS => ?_)
  refine lv_istore (lv' := [(6, .int bb), (5, .int kv), (0, .ref b), (1, rf E 0), (2, rf E 211), (3, rf E 217), (4, .int (nI i))]) hx hb dL_law_1273 hl (by decide) rfl (fun ls hl => ?_)
  refine lv_aload_n hx hb dL_law_1275 rfl (lv_at hl 4 rfl) ?_
  refine c_V (As := []) (st1 := [.int (m1 0 6)]) (rest := []) (p_X5_thrown l E x1 m1 g o1 rfl) (kl_96 hB ⟨Nat.le_of_ble_eq_true rfl, Nat.le_of_ble_eq_true rfl⟩) (Wd.rec hK hW (by decide) cM_0 (ci := 5) rfl) hx hb hml hown hB hK hW hS hcap rfl hl.1 rfl (Nat.le_of_ble_eq_true rfl) rfl dL_law_1276 (fun H locs hW hS => ?_)
  refine lv_iload hx hb dL_law_1279 (lv_at hl 1 rfl) ?_
  refine lv_icmp_eq (tgt := 1286) hx hb dL_law_1281 (by decide) (fun _ => ?_) (fun c9 => absurd ht c9)
  refine lv_iload hx hb dL_law_1286 (lv_at hl 1 rfl) ?_
  refine lv_if_ne (tgt := 1303) hx hb dL_law_1288 (by decide) (fun _ => ?_) (fun c8 => ?_)
  · refine lv_goto (tgt := 1714) hx hb dL_law_1303 (by decide) ?_
    exact next H locs ls hW hS (lv_sub hl [2, 3, 4, 5, 6] rfl)
  · refine lv_aload_n hx hb dL_law_1291 rfl (lv_at hl 5 rfl) ?_
    refine lv_iconst (v := 0) hx hb dL_law_1292 (by decide) ?_
    refine r_lald hx hb hK hW dL_law_1293 ?_
    refine lv_iload hx hb dL_law_1294 (lv_at hl 0 rfl) ?_
    refine lv_i2l hx hb dL_law_1296 rfl ?_
    refine W.lcmp hx hb dL_law_1297 ?_
    refine lv_if_eq (tgt := 1303) hx hb dL_law_1298 (by decide) (fun _ => ?_) (fun c9 => absurd (by rw [hv c8]; simp [lg_cmp]) c9)
    refine lv_goto (tgt := 1714) hx hb dL_law_1303 (by decide) ?_
    exact next H locs ls hW hS (lv_sub hl [2, 3, 4, 5, 6] rfl)
set_option maxRecDepth 100000 in
set_option maxHeartbeats 4000000 in
theorem law_19 {p : Program} {l : Launch} {e : Env} {s : State} {mi : MethodId} {args : Array Value} {below : List Frame} {meth : Method} {c : Code} {H : Heap} {locs : List Loc} {cells slots : Nat} {Q : State → Prop} {ls : Array Slot} {E : TE} {b L i : Nat} {xs : Nat → Int32} {x m x1 m1 : XS} {g o o1 : Int64} {kv bb : Int32} (hx : p.tables.exec = Jvm.exec) (hb : c.code = cL_law) (hml : c.maxLocals = 9) (hown : s.vm.findClass RL = some mi.cls) (hB : ∀ w ∈ BG, w.before args s = true) (hK : Ks E s) (hX : va_X b L xs s s.heap) (hbl : b < s.heap.size) (hbA : ¬ Ah E b) (hL : L ≤ 2560) (hi : i + 5 ≤ L) (hcap : cells + 1 ≤ 601024 ∧ slots + 6 ≤ 7293033) (hw : MW l E yL_setting cL_setting 4 [(0, 9, 12, 13)] 9 [rf E 0, .int (xs (i + 1)), rf E 217] (Wd E x m g o) (Wd E x1 m g o1) (some (.int kv))) (hm : f_X5_setting m (xs (i + 1)) = some (bb, m1)) (ht : m1 0 6 = kv) (hv : kv = 0 → o1 = bb.toInt64) (hW : Wd E x m g o H) (hS : va_S (Ah E) s.heap H locs) (hl : lv_has ls 9 [(0, .ref b), (1, rf E 0), (2, rf E 211), (3, rf E 217), (4, .int (nI i))])
    (next : ∀ (H : Heap) (locs : List Loc) (ls : Array Slot), Wd E x1 m1 g o1 H → va_S (Ah E) s.heap H locs → lv_has ls 9 [(0, .ref b), (1, rf E 0), (2, rf E 211), (3, rf E 217), (4, .int (nI i))] → W p l e room_1 s mi args below meth c H locs (cells + 1) (slots + 6) Q (F0 mi 1714 ls [])) : W p l e room_1 s mi args below meth c H locs cells slots Q (F0 mi 1306 ls []) := by
  obtain ⟨hc1, hc2⟩ := hcap
  have hcap : cells + 1 ≤ 601024 ∧ slots + 6 ≤ 7293033 := ⟨hc1, hc2⟩
  refine lv_aload_n hx hb dL_law_1306 rfl (lv_at hl 1 rfl) ?_
  refine lv_aload_n hx hb dL_law_1307 rfl (lv_at hl 0 rfl) ?_
  refine lv_iload hx hb dL_law_1308 (lv_at hl 4 rfl) ?_
  refine lv_iconst (v := 1) hx hb dL_law_1310 (by decide) ?_
  refine lv_iadd hx hb dL_law_1311 ?_
  refine lv_nm (v := nI (i + 1)) (nI_add i 1).symm ?_
  refine r_scr hx hb hX hbl hbA hS hL (k := i + 1) (by omega) dL_law_1312 ?_
  refine lv_aload_n hx hb dL_law_1313 rfl (lv_at hl 3 rfl) ?_
  refine c_SW (As := [rf E 0, .int (xs (i + 1)), rf E 217]) (rest := []) (st1 := [.int kv]) hw (kl_159 hB ⟨Nat.le_of_ble_eq_true rfl, Nat.le_of_ble_eq_true rfl⟩) hx hb hml hown hB hK hW hS hcap rfl hl.1 rfl (Nat.le_of_ble_eq_true rfl) rfl dL_law_1314 (fun H locs hW hS => ?_)
  refine lv_istore (lv' := [(5, .int kv), (0, .ref b), (1, rf E 0), (2, rf E 211), (3, rf E 217), (4, .int (nI i))]) hx hb dL_law_1317 hl (by decide) rfl (fun ls hl => ?_)
  refine lv_aload_n hx hb dL_law_1319 rfl (lv_at hl 3 rfl) ?_
  refine lv_aload_n hx hb dL_law_1320 rfl (lv_at hl 1 rfl) ?_
  refine lv_iload hx hb dL_law_1321 (lv_at hl 5 rfl) ?_
  refine lv_iconst (v := 1) hx hb dL_law_1323 (by decide) ?_
  refine lv_iadd hx hb dL_law_1324 ?_
  refine lv_nm (v := nI (i + 1)) (nI_add i 1).symm ?_
  refine r_scr hx hb hX hbl hbA hS hL (k := i + 1) (by omega) dL_law_1325 ?_
  refine c_V (As := [.int (xs (i + 1))]) (st1 := [.int bb]) (rest := []) (p_X5_setting l E x1 m g o1 hm) (kl_161 hB ⟨Nat.le_of_ble_eq_true rfl, Nat.le_of_ble_eq_true rfl⟩) (Wd.rec hK hW (by decide) cM_0 (ci := 5) rfl) hx hb hml hown hB hK hW hS hcap rfl hl.1 rfl (Nat.le_of_ble_eq_true rfl) rfl dL_law_1326 (fun H locs hW hS => ?_)
  refine lv_istore (lv' := [(6, .int bb), (5, .int kv), (0, .ref b), (1, rf E 0), (2, rf E 211), (3, rf E 217), (4, .int (nI i))]) hx hb dL_law_1329 hl (by decide) rfl (fun ls hl => ?_)
  refine lv_aload_n hx hb dL_law_1331 rfl (lv_at hl 4 rfl) ?_
  refine c_V (As := []) (st1 := [.int (m1 0 6)]) (rest := []) (p_X5_thrown l E x1 m1 g o1 rfl) (kl_96 hB ⟨Nat.le_of_ble_eq_true rfl, Nat.le_of_ble_eq_true rfl⟩) (Wd.rec hK hW (by decide) cM_0 (ci := 5) rfl) hx hb hml hown hB hK hW hS hcap rfl hl.1 rfl (Nat.le_of_ble_eq_true rfl) rfl dL_law_1332 (fun H locs hW hS => ?_)
  refine lv_iload hx hb dL_law_1335 (lv_at hl 1 rfl) ?_
  refine lv_icmp_eq (tgt := 1342) hx hb dL_law_1337 (by decide) (fun _ => ?_) (fun c9 => absurd ht c9)
  refine lv_iload hx hb dL_law_1342 (lv_at hl 1 rfl) ?_
  refine lv_if_ne (tgt := 1359) hx hb dL_law_1344 (by decide) (fun _ => ?_) (fun c8 => ?_)
  · refine lv_goto (tgt := 1714) hx hb dL_law_1359 (by decide) ?_
    exact next H locs ls hW hS (lv_sub hl [2, 3, 4, 5, 6] rfl)
  · refine lv_aload_n hx hb dL_law_1347 rfl (lv_at hl 5 rfl) ?_
    refine lv_iconst (v := 0) hx hb dL_law_1348 (by decide) ?_
    refine r_lald hx hb hK hW dL_law_1349 ?_
    refine lv_iload hx hb dL_law_1350 (lv_at hl 0 rfl) ?_
    refine lv_i2l hx hb dL_law_1352 rfl ?_
    refine W.lcmp hx hb dL_law_1353 ?_
    refine lv_if_eq (tgt := 1359) hx hb dL_law_1354 (by decide) (fun _ => ?_) (fun c9 => absurd (by rw [hv c8]; simp [lg_cmp]) c9)
    refine lv_goto (tgt := 1714) hx hb dL_law_1359 (by decide) ?_
    exact next H locs ls hW hS (lv_sub hl [2, 3, 4, 5, 6] rfl)
set_option maxRecDepth 100000 in
set_option maxHeartbeats 4000000 in
theorem law_20 {p : Program} {l : Launch} {e : Env} {s : State} {mi : MethodId} {args : Array Value} {below : List Frame} {meth : Method} {c : Code} {H : Heap} {locs : List Loc} {cells slots : Nat} {Q : State → Prop} {ls : Array Slot} {E : TE} {b L i : Nat} {xs : Nat → Int32} {x m x1 m1 : XS} {g o o1 : Int64} {kv bb : Int32} (hx : p.tables.exec = Jvm.exec) (hb : c.code = cL_law) (hml : c.maxLocals = 9) (hown : s.vm.findClass RL = some mi.cls) (hB : ∀ w ∈ BG, w.before args s = true) (hK : Ks E s) (hX : va_X b L xs s s.heap) (hbl : b < s.heap.size) (hbA : ¬ Ah E b) (hL : L ≤ 2560) (hi : i + 5 ≤ L) (hcap : cells + 1 ≤ 601024 ∧ slots + 6 ≤ 7293033) (hw : MW l E yL_ofCustomer cL_ofCustomer 5 [(0, 10, 13, 13), (0, 10, 17, 15)] 9 [rf E 0, .int (xs (i + 1)), .int (xs (i + 2)), rf E 217] (Wd E x m g o) (Wd E x1 m g o1) (some (.int kv))) (hm : f_X5_ofCustomer m (xs (i + 1)) (xs (i + 2)) = some (bb, m1)) (ht : m1 0 6 = kv) (hv : kv = 0 → o1 = bb.toInt64) (hW : Wd E x m g o H) (hS : va_S (Ah E) s.heap H locs) (hl : lv_has ls 9 [(0, .ref b), (1, rf E 0), (2, rf E 211), (3, rf E 217), (4, .int (nI i))])
    (next : ∀ (H : Heap) (locs : List Loc) (ls : Array Slot), Wd E x1 m1 g o1 H → va_S (Ah E) s.heap H locs → lv_has ls 9 [(0, .ref b), (1, rf E 0), (2, rf E 211), (3, rf E 217), (4, .int (nI i))] → W p l e room_1 s mi args below meth c H locs (cells + 1) (slots + 6) Q (F0 mi 1714 ls [])) : W p l e room_1 s mi args below meth c H locs cells slots Q (F0 mi 1362 ls []) := by
  obtain ⟨hc1, hc2⟩ := hcap
  have hcap : cells + 1 ≤ 601024 ∧ slots + 6 ≤ 7293033 := ⟨hc1, hc2⟩
  refine lv_aload_n hx hb dL_law_1362 rfl (lv_at hl 1 rfl) ?_
  refine lv_aload_n hx hb dL_law_1363 rfl (lv_at hl 0 rfl) ?_
  refine lv_iload hx hb dL_law_1364 (lv_at hl 4 rfl) ?_
  refine lv_iconst (v := 1) hx hb dL_law_1366 (by decide) ?_
  refine lv_iadd hx hb dL_law_1367 ?_
  refine lv_nm (v := nI (i + 1)) (nI_add i 1).symm ?_
  refine r_scr hx hb hX hbl hbA hS hL (k := i + 1) (by omega) dL_law_1368 ?_
  refine lv_aload_n hx hb dL_law_1369 rfl (lv_at hl 0 rfl) ?_
  refine lv_iload hx hb dL_law_1370 (lv_at hl 4 rfl) ?_
  refine lv_iconst (v := 2) hx hb dL_law_1372 (by decide) ?_
  refine lv_iadd hx hb dL_law_1373 ?_
  refine lv_nm (v := nI (i + 2)) (nI_add i 2).symm ?_
  refine r_scr hx hb hX hbl hbA hS hL (k := i + 2) (by omega) dL_law_1374 ?_
  refine lv_aload_n hx hb dL_law_1375 rfl (lv_at hl 3 rfl) ?_
  refine c_SW (As := [rf E 0, .int (xs (i + 1)), .int (xs (i + 2)), rf E 217]) (rest := []) (st1 := [.int kv]) hw (kl_162 hB ⟨Nat.le_of_ble_eq_true rfl, Nat.le_of_ble_eq_true rfl⟩) hx hb hml hown hB hK hW hS hcap rfl hl.1 rfl (Nat.le_of_ble_eq_true rfl) rfl dL_law_1376 (fun H locs hW hS => ?_)
  refine lv_istore (lv' := [(5, .int kv), (0, .ref b), (1, rf E 0), (2, rf E 211), (3, rf E 217), (4, .int (nI i))]) hx hb dL_law_1379 hl (by decide) rfl (fun ls hl => ?_)
  refine lv_aload_n hx hb dL_law_1381 rfl (lv_at hl 3 rfl) ?_
  refine lv_aload_n hx hb dL_law_1382 rfl (lv_at hl 1 rfl) ?_
  refine lv_iload hx hb dL_law_1383 (lv_at hl 5 rfl) ?_
  refine lv_iconst (v := 1) hx hb dL_law_1385 (by decide) ?_
  refine lv_iadd hx hb dL_law_1386 ?_
  refine lv_nm (v := nI (i + 1)) (nI_add i 1).symm ?_
  refine r_scr hx hb hX hbl hbA hS hL (k := i + 1) (by omega) dL_law_1387 ?_
  refine lv_aload_n hx hb dL_law_1388 rfl (lv_at hl 1 rfl) ?_
  refine lv_iload hx hb dL_law_1389 (lv_at hl 5 rfl) ?_
  refine lv_iconst (v := 2) hx hb dL_law_1391 (by decide) ?_
  refine lv_iadd hx hb dL_law_1392 ?_
  refine lv_nm (v := nI (i + 2)) (nI_add i 2).symm ?_
  refine r_scr hx hb hX hbl hbA hS hL (k := i + 2) (by omega) dL_law_1393 ?_
  refine c_V (As := [.int (xs (i + 1)), .int (xs (i + 2))]) (st1 := [.int bb]) (rest := []) (p_X5_ofCustomer l E x1 m g o1 hm) (kl_164 hB ⟨Nat.le_of_ble_eq_true rfl, Nat.le_of_ble_eq_true rfl⟩) (Wd.rec hK hW (by decide) cM_0 (ci := 5) rfl) hx hb hml hown hB hK hW hS hcap rfl hl.1 rfl (Nat.le_of_ble_eq_true rfl) rfl dL_law_1394 (fun H locs hW hS => ?_)
  refine lv_istore (lv' := [(6, .int bb), (5, .int kv), (0, .ref b), (1, rf E 0), (2, rf E 211), (3, rf E 217), (4, .int (nI i))]) hx hb dL_law_1397 hl (by decide) rfl (fun ls hl => ?_)
  refine lv_aload_n hx hb dL_law_1399 rfl (lv_at hl 4 rfl) ?_
  refine c_V (As := []) (st1 := [.int (m1 0 6)]) (rest := []) (p_X5_thrown l E x1 m1 g o1 rfl) (kl_96 hB ⟨Nat.le_of_ble_eq_true rfl, Nat.le_of_ble_eq_true rfl⟩) (Wd.rec hK hW (by decide) cM_0 (ci := 5) rfl) hx hb hml hown hB hK hW hS hcap rfl hl.1 rfl (Nat.le_of_ble_eq_true rfl) rfl dL_law_1400 (fun H locs hW hS => ?_)
  refine lv_iload hx hb dL_law_1403 (lv_at hl 1 rfl) ?_
  refine lv_icmp_eq (tgt := 1410) hx hb dL_law_1405 (by decide) (fun _ => ?_) (fun c9 => absurd ht c9)
  refine lv_iload hx hb dL_law_1410 (lv_at hl 1 rfl) ?_
  refine lv_if_ne (tgt := 1427) hx hb dL_law_1412 (by decide) (fun _ => ?_) (fun c8 => ?_)
  · refine lv_goto (tgt := 1714) hx hb dL_law_1427 (by decide) ?_
    exact next H locs ls hW hS (lv_sub hl [2, 3, 4, 5, 6] rfl)
  · refine lv_aload_n hx hb dL_law_1415 rfl (lv_at hl 5 rfl) ?_
    refine lv_iconst (v := 0) hx hb dL_law_1416 (by decide) ?_
    refine r_lald hx hb hK hW dL_law_1417 ?_
    refine lv_iload hx hb dL_law_1418 (lv_at hl 0 rfl) ?_
    refine lv_i2l hx hb dL_law_1420 rfl ?_
    refine W.lcmp hx hb dL_law_1421 ?_
    refine lv_if_eq (tgt := 1427) hx hb dL_law_1422 (by decide) (fun _ => ?_) (fun c9 => absurd (by rw [hv c8]; simp [lg_cmp]) c9)
    refine lv_goto (tgt := 1714) hx hb dL_law_1427 (by decide) ?_
    exact next H locs ls hW hS (lv_sub hl [2, 3, 4, 5, 6] rfl)
set_option maxRecDepth 100000 in
set_option maxHeartbeats 4000000 in
theorem law_21 {p : Program} {l : Launch} {e : Env} {s : State} {mi : MethodId} {args : Array Value} {below : List Frame} {meth : Method} {c : Code} {H : Heap} {locs : List Loc} {cells slots : Nat} {Q : State → Prop} {ls : Array Slot} {E : TE} {b L i : Nat} {xs : Nat → Int32} {x m x1 m1 : XS} {g o o1 : Int64} {kv bb : Int32} (hx : p.tables.exec = Jvm.exec) (hb : c.code = cL_law) (hml : c.maxLocals = 9) (hown : s.vm.findClass RL = some mi.cls) (hB : ∀ w ∈ BG, w.before args s = true) (hK : Ks E s) (hX : va_X b L xs s s.heap) (hbl : b < s.heap.size) (hbA : ¬ Ah E b) (hL : L ≤ 2560) (hi : i + 5 ≤ L) (hcap : cells + 1 ≤ 601024 ∧ slots + 6 ≤ 7293033) (hw : MW l E yL_whyNot cL_whyNot 6 [(0, 12, 15, 13), (0, 12, 19, 15)] 9 [rf E 0, .int (xs (i + 1)), .int (xs (i + 2)), .int (xs (i + 3)), rf E 217] (Wd E x m g o) (Wd E x1 m g o1) (some (.int kv))) (hm : f_X5_whyNot m (xs (i + 1)) (xs (i + 2)) (xs (i + 3)) = some (bb, m1)) (ht : m1 0 6 = kv) (hv : kv = 0 → o1 = bb.toInt64) (hW : Wd E x m g o H) (hS : va_S (Ah E) s.heap H locs) (hl : lv_has ls 9 [(0, .ref b), (1, rf E 0), (2, rf E 211), (3, rf E 217), (4, .int (nI i))])
    (next : ∀ (H : Heap) (locs : List Loc) (ls : Array Slot), Wd E x1 m1 g o1 H → va_S (Ah E) s.heap H locs → lv_has ls 9 [(0, .ref b), (1, rf E 0), (2, rf E 211), (3, rf E 217), (4, .int (nI i))] → W p l e room_1 s mi args below meth c H locs (cells + 1) (slots + 6) Q (F0 mi 1714 ls [])) : W p l e room_1 s mi args below meth c H locs cells slots Q (F0 mi 1430 ls []) := by
  obtain ⟨hc1, hc2⟩ := hcap
  have hcap : cells + 1 ≤ 601024 ∧ slots + 6 ≤ 7293033 := ⟨hc1, hc2⟩
  refine lv_aload_n hx hb dL_law_1430 rfl (lv_at hl 1 rfl) ?_
  refine lv_aload_n hx hb dL_law_1431 rfl (lv_at hl 0 rfl) ?_
  refine lv_iload hx hb dL_law_1432 (lv_at hl 4 rfl) ?_
  refine lv_iconst (v := 1) hx hb dL_law_1434 (by decide) ?_
  refine lv_iadd hx hb dL_law_1435 ?_
  refine lv_nm (v := nI (i + 1)) (nI_add i 1).symm ?_
  refine r_scr hx hb hX hbl hbA hS hL (k := i + 1) (by omega) dL_law_1436 ?_
  refine lv_aload_n hx hb dL_law_1437 rfl (lv_at hl 0 rfl) ?_
  refine lv_iload hx hb dL_law_1438 (lv_at hl 4 rfl) ?_
  refine lv_iconst (v := 2) hx hb dL_law_1440 (by decide) ?_
  refine lv_iadd hx hb dL_law_1441 ?_
  refine lv_nm (v := nI (i + 2)) (nI_add i 2).symm ?_
  refine r_scr hx hb hX hbl hbA hS hL (k := i + 2) (by omega) dL_law_1442 ?_
  refine lv_aload_n hx hb dL_law_1443 rfl (lv_at hl 0 rfl) ?_
  refine lv_iload hx hb dL_law_1444 (lv_at hl 4 rfl) ?_
  refine lv_iconst (v := 3) hx hb dL_law_1446 (by decide) ?_
  refine lv_iadd hx hb dL_law_1447 ?_
  refine lv_nm (v := nI (i + 3)) (nI_add i 3).symm ?_
  refine r_scr hx hb hX hbl hbA hS hL (k := i + 3) (by omega) dL_law_1448 ?_
  refine lv_aload_n hx hb dL_law_1449 rfl (lv_at hl 3 rfl) ?_
  refine c_SW (As := [rf E 0, .int (xs (i + 1)), .int (xs (i + 2)), .int (xs (i + 3)), rf E 217]) (rest := []) (st1 := [.int kv]) hw (kl_165 hB ⟨Nat.le_of_ble_eq_true rfl, Nat.le_of_ble_eq_true rfl⟩) hx hb hml hown hB hK hW hS hcap rfl hl.1 rfl (Nat.le_of_ble_eq_true rfl) rfl dL_law_1450 (fun H locs hW hS => ?_)
  refine lv_istore (lv' := [(5, .int kv), (0, .ref b), (1, rf E 0), (2, rf E 211), (3, rf E 217), (4, .int (nI i))]) hx hb dL_law_1453 hl (by decide) rfl (fun ls hl => ?_)
  refine lv_aload_n hx hb dL_law_1455 rfl (lv_at hl 3 rfl) ?_
  refine lv_aload_n hx hb dL_law_1456 rfl (lv_at hl 1 rfl) ?_
  refine lv_iload hx hb dL_law_1457 (lv_at hl 5 rfl) ?_
  refine lv_iconst (v := 1) hx hb dL_law_1459 (by decide) ?_
  refine lv_iadd hx hb dL_law_1460 ?_
  refine lv_nm (v := nI (i + 1)) (nI_add i 1).symm ?_
  refine r_scr hx hb hX hbl hbA hS hL (k := i + 1) (by omega) dL_law_1461 ?_
  refine lv_aload_n hx hb dL_law_1462 rfl (lv_at hl 1 rfl) ?_
  refine lv_iload hx hb dL_law_1463 (lv_at hl 5 rfl) ?_
  refine lv_iconst (v := 2) hx hb dL_law_1465 (by decide) ?_
  refine lv_iadd hx hb dL_law_1466 ?_
  refine lv_nm (v := nI (i + 2)) (nI_add i 2).symm ?_
  refine r_scr hx hb hX hbl hbA hS hL (k := i + 2) (by omega) dL_law_1467 ?_
  refine lv_aload_n hx hb dL_law_1468 rfl (lv_at hl 1 rfl) ?_
  refine lv_iload hx hb dL_law_1469 (lv_at hl 5 rfl) ?_
  refine lv_iconst (v := 3) hx hb dL_law_1471 (by decide) ?_
  refine lv_iadd hx hb dL_law_1472 ?_
  refine lv_nm (v := nI (i + 3)) (nI_add i 3).symm ?_
  refine r_scr hx hb hX hbl hbA hS hL (k := i + 3) (by omega) dL_law_1473 ?_
  refine c_V (As := [.int (xs (i + 1)), .int (xs (i + 2)), .int (xs (i + 3))]) (st1 := [.int bb]) (rest := []) (p_X5_whyNot l E x1 m g o1 hm) (kl_167 hB ⟨Nat.le_of_ble_eq_true rfl, Nat.le_of_ble_eq_true rfl⟩) (Wd.rec hK hW (by decide) cM_0 (ci := 5) rfl) hx hb hml hown hB hK hW hS hcap rfl hl.1 rfl (Nat.le_of_ble_eq_true rfl) rfl dL_law_1474 (fun H locs hW hS => ?_)
  refine lv_istore (lv' := [(6, .int bb), (5, .int kv), (0, .ref b), (1, rf E 0), (2, rf E 211), (3, rf E 217), (4, .int (nI i))]) hx hb dL_law_1477 hl (by decide) rfl (fun ls hl => ?_)
  refine lv_aload_n hx hb dL_law_1479 rfl (lv_at hl 4 rfl) ?_
  refine c_V (As := []) (st1 := [.int (m1 0 6)]) (rest := []) (p_X5_thrown l E x1 m1 g o1 rfl) (kl_96 hB ⟨Nat.le_of_ble_eq_true rfl, Nat.le_of_ble_eq_true rfl⟩) (Wd.rec hK hW (by decide) cM_0 (ci := 5) rfl) hx hb hml hown hB hK hW hS hcap rfl hl.1 rfl (Nat.le_of_ble_eq_true rfl) rfl dL_law_1480 (fun H locs hW hS => ?_)
  refine lv_iload hx hb dL_law_1483 (lv_at hl 1 rfl) ?_
  refine lv_icmp_eq (tgt := 1490) hx hb dL_law_1485 (by decide) (fun _ => ?_) (fun c9 => absurd ht c9)
  refine lv_iload hx hb dL_law_1490 (lv_at hl 1 rfl) ?_
  refine lv_if_ne (tgt := 1507) hx hb dL_law_1492 (by decide) (fun _ => ?_) (fun c8 => ?_)
  · refine lv_goto (tgt := 1714) hx hb dL_law_1507 (by decide) ?_
    exact next H locs ls hW hS (lv_sub hl [2, 3, 4, 5, 6] rfl)
  · refine lv_aload_n hx hb dL_law_1495 rfl (lv_at hl 5 rfl) ?_
    refine lv_iconst (v := 0) hx hb dL_law_1496 (by decide) ?_
    refine r_lald hx hb hK hW dL_law_1497 ?_
    refine lv_iload hx hb dL_law_1498 (lv_at hl 0 rfl) ?_
    refine lv_i2l hx hb dL_law_1500 rfl ?_
    refine W.lcmp hx hb dL_law_1501 ?_
    refine lv_if_eq (tgt := 1507) hx hb dL_law_1502 (by decide) (fun _ => ?_) (fun c9 => absurd (by rw [hv c8]; simp [lg_cmp]) c9)
    refine lv_goto (tgt := 1714) hx hb dL_law_1507 (by decide) ?_
    exact next H locs ls hW hS (lv_sub hl [2, 3, 4, 5, 6] rfl)
set_option maxRecDepth 100000 in
set_option maxHeartbeats 4000000 in
theorem law_22 {p : Program} {l : Launch} {e : Env} {s : State} {mi : MethodId} {args : Array Value} {below : List Frame} {meth : Method} {c : Code} {H : Heap} {locs : List Loc} {cells slots : Nat} {Q : State → Prop} {ls : Array Slot} {E : TE} {b L i : Nat} {xs : Nat → Int32} {x m x1 m1 : XS} {g o o1 : Int64} {kv bb : Int32} (hx : p.tables.exec = Jvm.exec) (hb : c.code = cL_law) (hml : c.maxLocals = 9) (hown : s.vm.findClass RL = some mi.cls) (hB : ∀ w ∈ BG, w.before args s = true) (hK : Ks E s) (hX : va_X b L xs s s.heap) (hbl : b < s.heap.size) (hbA : ¬ Ah E b) (hL : L ≤ 2560) (hi : i + 5 ≤ L) (hcap : cells + 1 ≤ 601024 ∧ slots + 6 ≤ 7293033) (hw : MW l E yL_fair cL_fair 4 [(0, 9, 12, 13)] 9 [rf E 0, .int (xs (i + 1)), rf E 217] (Wd E x m g o) (Wd E x1 m g o1) (some (.int kv))) (hm : f_X5_fair m (xs (i + 1)) = some (bb, m1)) (ht : m1 0 6 = kv) (hv : kv = 0 → o1 = bb.toInt64) (hW : Wd E x m g o H) (hS : va_S (Ah E) s.heap H locs) (hl : lv_has ls 9 [(0, .ref b), (1, rf E 0), (2, rf E 211), (3, rf E 217), (4, .int (nI i))])
    (next : ∀ (H : Heap) (locs : List Loc) (ls : Array Slot), Wd E x1 m1 g o1 H → va_S (Ah E) s.heap H locs → lv_has ls 9 [(0, .ref b), (1, rf E 0), (2, rf E 211), (3, rf E 217), (4, .int (nI i))] → W p l e room_1 s mi args below meth c H locs (cells + 1) (slots + 6) Q (F0 mi 1714 ls [])) : W p l e room_1 s mi args below meth c H locs cells slots Q (F0 mi 1510 ls []) := by
  obtain ⟨hc1, hc2⟩ := hcap
  have hcap : cells + 1 ≤ 601024 ∧ slots + 6 ≤ 7293033 := ⟨hc1, hc2⟩
  refine lv_aload_n hx hb dL_law_1510 rfl (lv_at hl 1 rfl) ?_
  refine lv_aload_n hx hb dL_law_1511 rfl (lv_at hl 0 rfl) ?_
  refine lv_iload hx hb dL_law_1512 (lv_at hl 4 rfl) ?_
  refine lv_iconst (v := 1) hx hb dL_law_1514 (by decide) ?_
  refine lv_iadd hx hb dL_law_1515 ?_
  refine lv_nm (v := nI (i + 1)) (nI_add i 1).symm ?_
  refine r_scr hx hb hX hbl hbA hS hL (k := i + 1) (by omega) dL_law_1516 ?_
  refine lv_aload_n hx hb dL_law_1517 rfl (lv_at hl 3 rfl) ?_
  refine c_SW (As := [rf E 0, .int (xs (i + 1)), rf E 217]) (rest := []) (st1 := [.int kv]) hw (kl_168 hB ⟨Nat.le_of_ble_eq_true rfl, Nat.le_of_ble_eq_true rfl⟩) hx hb hml hown hB hK hW hS hcap rfl hl.1 rfl (Nat.le_of_ble_eq_true rfl) rfl dL_law_1518 (fun H locs hW hS => ?_)
  refine lv_istore (lv' := [(5, .int kv), (0, .ref b), (1, rf E 0), (2, rf E 211), (3, rf E 217), (4, .int (nI i))]) hx hb dL_law_1521 hl (by decide) rfl (fun ls hl => ?_)
  refine lv_aload_n hx hb dL_law_1523 rfl (lv_at hl 3 rfl) ?_
  refine lv_aload_n hx hb dL_law_1524 rfl (lv_at hl 1 rfl) ?_
  refine lv_iload hx hb dL_law_1525 (lv_at hl 5 rfl) ?_
  refine lv_iconst (v := 1) hx hb dL_law_1527 (by decide) ?_
  refine lv_iadd hx hb dL_law_1528 ?_
  refine lv_nm (v := nI (i + 1)) (nI_add i 1).symm ?_
  refine r_scr hx hb hX hbl hbA hS hL (k := i + 1) (by omega) dL_law_1529 ?_
  refine c_V (As := [.int (xs (i + 1))]) (st1 := [.int bb]) (rest := []) (p_X5_fair l E x1 m g o1 hm) (kl_170 hB ⟨Nat.le_of_ble_eq_true rfl, Nat.le_of_ble_eq_true rfl⟩) (Wd.rec hK hW (by decide) cM_0 (ci := 5) rfl) hx hb hml hown hB hK hW hS hcap rfl hl.1 rfl (Nat.le_of_ble_eq_true rfl) rfl dL_law_1530 (fun H locs hW hS => ?_)
  refine lv_istore (lv' := [(6, .int bb), (5, .int kv), (0, .ref b), (1, rf E 0), (2, rf E 211), (3, rf E 217), (4, .int (nI i))]) hx hb dL_law_1533 hl (by decide) rfl (fun ls hl => ?_)
  refine lv_aload_n hx hb dL_law_1535 rfl (lv_at hl 4 rfl) ?_
  refine c_V (As := []) (st1 := [.int (m1 0 6)]) (rest := []) (p_X5_thrown l E x1 m1 g o1 rfl) (kl_96 hB ⟨Nat.le_of_ble_eq_true rfl, Nat.le_of_ble_eq_true rfl⟩) (Wd.rec hK hW (by decide) cM_0 (ci := 5) rfl) hx hb hml hown hB hK hW hS hcap rfl hl.1 rfl (Nat.le_of_ble_eq_true rfl) rfl dL_law_1536 (fun H locs hW hS => ?_)
  refine lv_iload hx hb dL_law_1539 (lv_at hl 1 rfl) ?_
  refine lv_icmp_eq (tgt := 1546) hx hb dL_law_1541 (by decide) (fun _ => ?_) (fun c9 => absurd ht c9)
  refine lv_iload hx hb dL_law_1546 (lv_at hl 1 rfl) ?_
  refine lv_if_ne (tgt := 1563) hx hb dL_law_1548 (by decide) (fun _ => ?_) (fun c8 => ?_)
  · refine lv_goto (tgt := 1714) hx hb dL_law_1563 (by decide) ?_
    exact next H locs ls hW hS (lv_sub hl [2, 3, 4, 5, 6] rfl)
  · refine lv_aload_n hx hb dL_law_1551 rfl (lv_at hl 5 rfl) ?_
    refine lv_iconst (v := 0) hx hb dL_law_1552 (by decide) ?_
    refine r_lald hx hb hK hW dL_law_1553 ?_
    refine lv_iload hx hb dL_law_1554 (lv_at hl 0 rfl) ?_
    refine lv_i2l hx hb dL_law_1556 rfl ?_
    refine W.lcmp hx hb dL_law_1557 ?_
    refine lv_if_eq (tgt := 1563) hx hb dL_law_1558 (by decide) (fun _ => ?_) (fun c9 => absurd (by rw [hv c8]; simp [lg_cmp]) c9)
    refine lv_goto (tgt := 1714) hx hb dL_law_1563 (by decide) ?_
    exact next H locs ls hW hS (lv_sub hl [2, 3, 4, 5, 6] rfl)
set_option maxRecDepth 100000 in
set_option maxHeartbeats 4000000 in
theorem law_23 {p : Program} {l : Launch} {e : Env} {s : State} {mi : MethodId} {args : Array Value} {below : List Frame} {meth : Method} {c : Code} {H : Heap} {locs : List Loc} {cells slots : Nat} {Q : State → Prop} {ls : Array Slot} {E : TE} {b L i : Nat} {xs : Nat → Int32} {x m x1 m1 : XS} {g o o1 : Int64} {kv bb : Int32} (hx : p.tables.exec = Jvm.exec) (hb : c.code = cL_law) (hml : c.maxLocals = 9) (hown : s.vm.findClass RL = some mi.cls) (hB : ∀ w ∈ BG, w.before args s = true) (hK : Ks E s) (hX : va_X b L xs s s.heap) (hbl : b < s.heap.size) (hbA : ¬ Ah E b) (hL : L ≤ 2560) (hi : i + 5 ≤ L) (hcap : cells + 1 ≤ 601024 ∧ slots + 6 ≤ 7293033) (hw : MW l E yL_ifJudged cL_ifJudged 6 [(0, 12, 15, 13), (0, 12, 19, 15)] 9 [rf E 0, .int (xs (i + 1)), .int (xs (i + 2)), .int (xs (i + 3)), rf E 217] (Wd E x m g o) (Wd E x1 m g o1) (some (.int kv))) (hm : f_X5_ifJudged m (xs (i + 1)) (xs (i + 2)) (xs (i + 3)) = some (bb, m1)) (ht : m1 0 6 = kv) (hv : kv = 0 → o1 = bb.toInt64) (hW : Wd E x m g o H) (hS : va_S (Ah E) s.heap H locs) (hl : lv_has ls 9 [(0, .ref b), (1, rf E 0), (2, rf E 211), (3, rf E 217), (4, .int (nI i))])
    (next : ∀ (H : Heap) (locs : List Loc) (ls : Array Slot), Wd E x1 m1 g o1 H → va_S (Ah E) s.heap H locs → lv_has ls 9 [(0, .ref b), (1, rf E 0), (2, rf E 211), (3, rf E 217), (4, .int (nI i))] → W p l e room_1 s mi args below meth c H locs (cells + 1) (slots + 6) Q (F0 mi 1714 ls [])) : W p l e room_1 s mi args below meth c H locs cells slots Q (F0 mi 1566 ls []) := by
  obtain ⟨hc1, hc2⟩ := hcap
  have hcap : cells + 1 ≤ 601024 ∧ slots + 6 ≤ 7293033 := ⟨hc1, hc2⟩
  refine lv_aload_n hx hb dL_law_1566 rfl (lv_at hl 1 rfl) ?_
  refine lv_aload_n hx hb dL_law_1567 rfl (lv_at hl 0 rfl) ?_
  refine lv_iload hx hb dL_law_1568 (lv_at hl 4 rfl) ?_
  refine lv_iconst (v := 1) hx hb dL_law_1570 (by decide) ?_
  refine lv_iadd hx hb dL_law_1571 ?_
  refine lv_nm (v := nI (i + 1)) (nI_add i 1).symm ?_
  refine r_scr hx hb hX hbl hbA hS hL (k := i + 1) (by omega) dL_law_1572 ?_
  refine lv_aload_n hx hb dL_law_1573 rfl (lv_at hl 0 rfl) ?_
  refine lv_iload hx hb dL_law_1574 (lv_at hl 4 rfl) ?_
  refine lv_iconst (v := 2) hx hb dL_law_1576 (by decide) ?_
  refine lv_iadd hx hb dL_law_1577 ?_
  refine lv_nm (v := nI (i + 2)) (nI_add i 2).symm ?_
  refine r_scr hx hb hX hbl hbA hS hL (k := i + 2) (by omega) dL_law_1578 ?_
  refine lv_aload_n hx hb dL_law_1579 rfl (lv_at hl 0 rfl) ?_
  refine lv_iload hx hb dL_law_1580 (lv_at hl 4 rfl) ?_
  refine lv_iconst (v := 3) hx hb dL_law_1582 (by decide) ?_
  refine lv_iadd hx hb dL_law_1583 ?_
  refine lv_nm (v := nI (i + 3)) (nI_add i 3).symm ?_
  refine r_scr hx hb hX hbl hbA hS hL (k := i + 3) (by omega) dL_law_1584 ?_
  refine lv_aload_n hx hb dL_law_1585 rfl (lv_at hl 3 rfl) ?_
  refine c_SW (As := [rf E 0, .int (xs (i + 1)), .int (xs (i + 2)), .int (xs (i + 3)), rf E 217]) (rest := []) (st1 := [.int kv]) hw (kl_171 hB ⟨Nat.le_of_ble_eq_true rfl, Nat.le_of_ble_eq_true rfl⟩) hx hb hml hown hB hK hW hS hcap rfl hl.1 rfl (Nat.le_of_ble_eq_true rfl) rfl dL_law_1586 (fun H locs hW hS => ?_)
  refine lv_istore (lv' := [(5, .int kv), (0, .ref b), (1, rf E 0), (2, rf E 211), (3, rf E 217), (4, .int (nI i))]) hx hb dL_law_1589 hl (by decide) rfl (fun ls hl => ?_)
  refine lv_aload_n hx hb dL_law_1591 rfl (lv_at hl 3 rfl) ?_
  refine lv_aload_n hx hb dL_law_1592 rfl (lv_at hl 1 rfl) ?_
  refine lv_iload hx hb dL_law_1593 (lv_at hl 5 rfl) ?_
  refine lv_iconst (v := 1) hx hb dL_law_1595 (by decide) ?_
  refine lv_iadd hx hb dL_law_1596 ?_
  refine lv_nm (v := nI (i + 1)) (nI_add i 1).symm ?_
  refine r_scr hx hb hX hbl hbA hS hL (k := i + 1) (by omega) dL_law_1597 ?_
  refine lv_aload_n hx hb dL_law_1598 rfl (lv_at hl 1 rfl) ?_
  refine lv_iload hx hb dL_law_1599 (lv_at hl 5 rfl) ?_
  refine lv_iconst (v := 2) hx hb dL_law_1601 (by decide) ?_
  refine lv_iadd hx hb dL_law_1602 ?_
  refine lv_nm (v := nI (i + 2)) (nI_add i 2).symm ?_
  refine r_scr hx hb hX hbl hbA hS hL (k := i + 2) (by omega) dL_law_1603 ?_
  refine lv_aload_n hx hb dL_law_1604 rfl (lv_at hl 1 rfl) ?_
  refine lv_iload hx hb dL_law_1605 (lv_at hl 5 rfl) ?_
  refine lv_iconst (v := 3) hx hb dL_law_1607 (by decide) ?_
  refine lv_iadd hx hb dL_law_1608 ?_
  refine lv_nm (v := nI (i + 3)) (nI_add i 3).symm ?_
  refine r_scr hx hb hX hbl hbA hS hL (k := i + 3) (by omega) dL_law_1609 ?_
  refine c_V (As := [.int (xs (i + 1)), .int (xs (i + 2)), .int (xs (i + 3))]) (st1 := [.int bb]) (rest := []) (p_X5_ifJudged l E x1 m g o1 hm) (kl_173 hB ⟨Nat.le_of_ble_eq_true rfl, Nat.le_of_ble_eq_true rfl⟩) (Wd.rec hK hW (by decide) cM_0 (ci := 5) rfl) hx hb hml hown hB hK hW hS hcap rfl hl.1 rfl (Nat.le_of_ble_eq_true rfl) rfl dL_law_1610 (fun H locs hW hS => ?_)
  refine lv_istore (lv' := [(6, .int bb), (5, .int kv), (0, .ref b), (1, rf E 0), (2, rf E 211), (3, rf E 217), (4, .int (nI i))]) hx hb dL_law_1613 hl (by decide) rfl (fun ls hl => ?_)
  refine lv_aload_n hx hb dL_law_1615 rfl (lv_at hl 4 rfl) ?_
  refine c_V (As := []) (st1 := [.int (m1 0 6)]) (rest := []) (p_X5_thrown l E x1 m1 g o1 rfl) (kl_96 hB ⟨Nat.le_of_ble_eq_true rfl, Nat.le_of_ble_eq_true rfl⟩) (Wd.rec hK hW (by decide) cM_0 (ci := 5) rfl) hx hb hml hown hB hK hW hS hcap rfl hl.1 rfl (Nat.le_of_ble_eq_true rfl) rfl dL_law_1616 (fun H locs hW hS => ?_)
  refine lv_iload hx hb dL_law_1619 (lv_at hl 1 rfl) ?_
  refine lv_icmp_eq (tgt := 1626) hx hb dL_law_1621 (by decide) (fun _ => ?_) (fun c9 => absurd ht c9)
  refine lv_iload hx hb dL_law_1626 (lv_at hl 1 rfl) ?_
  refine lv_if_ne (tgt := 1643) hx hb dL_law_1628 (by decide) (fun _ => ?_) (fun c8 => ?_)
  · refine lv_goto (tgt := 1714) hx hb dL_law_1643 (by decide) ?_
    exact next H locs ls hW hS (lv_sub hl [2, 3, 4, 5, 6] rfl)
  · refine lv_aload_n hx hb dL_law_1631 rfl (lv_at hl 5 rfl) ?_
    refine lv_iconst (v := 0) hx hb dL_law_1632 (by decide) ?_
    refine r_lald hx hb hK hW dL_law_1633 ?_
    refine lv_iload hx hb dL_law_1634 (lv_at hl 0 rfl) ?_
    refine lv_i2l hx hb dL_law_1636 rfl ?_
    refine W.lcmp hx hb dL_law_1637 ?_
    refine lv_if_eq (tgt := 1643) hx hb dL_law_1638 (by decide) (fun _ => ?_) (fun c9 => absurd (by rw [hv c8]; simp [lg_cmp]) c9)
    refine lv_goto (tgt := 1714) hx hb dL_law_1643 (by decide) ?_
    exact next H locs ls hW hS (lv_sub hl [2, 3, 4, 5, 6] rfl)
set_option maxRecDepth 100000 in
set_option maxHeartbeats 4000000 in
theorem law_24 {p : Program} {l : Launch} {e : Env} {s : State} {mi : MethodId} {args : Array Value} {below : List Frame} {meth : Method} {c : Code} {H : Heap} {locs : List Loc} {cells slots : Nat} {Q : State → Prop} {ls : Array Slot} {E : TE} {b L i : Nat} {xs : Nat → Int32} {x m x1 m1 : XS} {g o : Int64} {r bb : Int32} (hx : p.tables.exec = Jvm.exec) (hb : c.code = cL_law) (hml : c.maxLocals = 9) (hown : s.vm.findClass RL = some mi.cls) (hB : ∀ w ∈ BG, w.before args s = true) (hK : Ks E s) (hX : va_X b L xs s s.heap) (hbl : b < s.heap.size) (hbA : ¬ Ah E b) (hL : L ≤ 2560) (hi : i + 5 ≤ L) (hcap0 : cells ≤ 601024 ∧ slots ≤ 7293033) (hf : f_X4_monthsToEqual x = some (r, x1)) (hm : f_X5_monthsToEqual m = some (bb, m1)) (heq : r = bb) (hW : Wd E x m g o H) (hS : va_S (Ah E) s.heap H locs) (hl : lv_has ls 9 [(0, .ref b), (1, rf E 0), (2, rf E 211), (3, rf E 217), (4, .int (nI i))])
    (next : ∀ (H : Heap) (locs : List Loc) (ls : Array Slot), Wd E x1 m1 g o H → va_S (Ah E) s.heap H locs → lv_has ls 9 [(0, .ref b), (1, rf E 0), (2, rf E 211), (3, rf E 217), (4, .int (nI i))] → W p l e room_1 s mi args below meth c H locs cells slots Q (F0 mi 1714 ls [])) : W p l e room_1 s mi args below meth c H locs cells slots Q (F0 mi 1646 ls []) := by
  refine lv_aload_n hx hb dL_law_1646 rfl (lv_at hl 1 rfl) ?_
  refine c_V (As := []) (st1 := [.int r]) (rest := []) (p_X4_monthsToEqual l E x m g o hf) (kl_174 hB ⟨Nat.le_of_ble_eq_true rfl, Nat.le_of_ble_eq_true rfl⟩) (Wd.rec hK hW (by decide) cX_0 (ci := 4) rfl) hx hb hml hown hB hK hW hS hcap0 rfl hl.1 rfl (Nat.le_of_ble_eq_true rfl) rfl dL_law_1647 (fun H locs hW hS => ?_)
  refine lv_aload_n hx hb dL_law_1650 rfl (lv_at hl 2 rfl) ?_
  refine c_V (As := []) (st1 := [.int bb, .int r]) (rest := [.int r]) (p_X5_monthsToEqual l E x1 m g o hm) (kl_177 hB ⟨Nat.le_of_ble_eq_true rfl, Nat.le_of_ble_eq_true rfl⟩) (Wd.rec hK hW (by decide) cM_0 (ci := 5) rfl) hx hb hml hown hB hK hW hS hcap0 rfl hl.1 rfl (Nat.le_of_ble_eq_true rfl) rfl dL_law_1651 (fun H locs hW hS => ?_)
  refine lv_icmp_eq (tgt := 1714) hx hb dL_law_1654 (by decide) (fun _ => ?_) (fun c9 => absurd heq c9)
  exact next H locs ls hW hS (lv_sub hl [0, 1, 2, 3, 4] rfl)
set_option maxRecDepth 100000 in
set_option maxHeartbeats 4000000 in
theorem law_25 {p : Program} {l : Launch} {e : Env} {s : State} {mi : MethodId} {args : Array Value} {below : List Frame} {meth : Method} {c : Code} {H : Heap} {locs : List Loc} {cells slots : Nat} {Q : State → Prop} {ls : Array Slot} {E : TE} {b L i : Nat} {xs : Nat → Int32} {x m m1 : XS} {g o : Int64} {r bb : UInt64} (hx : p.tables.exec = Jvm.exec) (hb : c.code = cL_law) (hml : c.maxLocals = 9) (hown : s.vm.findClass RL = some mi.cls) (hB : ∀ w ∈ BG, w.before args s = true) (hK : Ks E s) (hX : va_X b L xs s s.heap) (hbl : b < s.heap.size) (hbA : ¬ Ah E b) (hL : L ≤ 2560) (hi : i + 5 ≤ L) (hcap0 : cells ≤ 601024 ∧ slots ≤ 7293033) (hf : f_X4_followShare x = some r) (hm : f_X5_followShare m = some (bb, m1)) (heq : Op.cmpValue (FP.dcmp r bb) .l = 0) (hW : Wd E x m g o H) (hS : va_S (Ah E) s.heap H locs) (hl : lv_has ls 9 [(0, .ref b), (1, rf E 0), (2, rf E 211), (3, rf E 217), (4, .int (nI i))])
    (next : ∀ (H : Heap) (locs : List Loc) (ls : Array Slot), Wd E x m1 g o H → va_S (Ah E) s.heap H locs → lv_has ls 9 [(0, .ref b), (1, rf E 0), (2, rf E 211), (3, rf E 217), (4, .int (nI i))] → W p l e room_1 s mi args below meth c H locs cells slots Q (F0 mi 1714 ls [])) : W p l e room_1 s mi args below meth c H locs cells slots Q (F0 mi 1659 ls []) := by
  refine lv_aload_n hx hb dL_law_1659 rfl (lv_at hl 1 rfl) ?_
  refine c_V (As := []) (st1 := [.double r]) (rest := []) (p_X4_followShare l E x m g o hf) (kl_178 hB ⟨Nat.le_of_ble_eq_true rfl, Nat.le_of_ble_eq_true rfl⟩) (Wd.rec hK hW (by decide) cX_0 (ci := 4) rfl) hx hb hml hown hB hK hW hS hcap0 rfl hl.1 rfl (Nat.le_of_ble_eq_true rfl) rfl dL_law_1660 (fun H locs hW hS => ?_)
  refine lv_dstore (lv' := [(5, .double r), (0, .ref b), (1, rf E 0), (2, rf E 211), (3, rf E 217), (4, .int (nI i))]) hx hb dL_law_1663 hl (by decide) rfl (fun ls hl => ?_)
  refine lv_aload_n hx hb dL_law_1665 rfl (lv_at hl 3 rfl) ?_
  refine c_V (As := []) (st1 := [.double bb]) (rest := []) (p_X5_followShare l E x m g o hm) (kl_182 hB ⟨Nat.le_of_ble_eq_true rfl, Nat.le_of_ble_eq_true rfl⟩) (Wd.rec hK hW (by decide) cM_0 (ci := 5) rfl) hx hb hml hown hB hK hW hS hcap0 rfl hl.1 rfl (Nat.le_of_ble_eq_true rfl) rfl dL_law_1666 (fun H locs hW hS => ?_)
  refine lv_dstore (lv' := [(7, .double bb), (5, .double r), (0, .ref b), (1, rf E 0), (2, rf E 211), (3, rf E 217), (4, .int (nI i))]) hx hb dL_law_1669 hl (by decide) rfl (fun ls hl => ?_)
  refine lv_dload hx hb dL_law_1671 (lv_at hl 1 rfl) ?_
  refine lv_dload hx hb dL_law_1673 (lv_at hl 0 rfl) ?_
  refine lv_dcmp hx hb dL_law_1675 ?_
  refine lv_if_eq (tgt := 1697) hx hb dL_law_1676 (by decide) (fun _ => ?_) (fun c9 => absurd heq c9)
  refine lv_goto (tgt := 1714) hx hb dL_law_1697 (by decide) ?_
  exact next H locs ls hW hS (lv_sub hl [2, 3, 4, 5, 6] rfl)
set_option maxRecDepth 100000 in
set_option maxHeartbeats 4000000 in
theorem law_26 {p : Program} {l : Launch} {e : Env} {s : State} {mi : MethodId} {args : Array Value} {below : List Frame} {meth : Method} {c : Code} {H : Heap} {locs : List Loc} {cells slots : Nat} {Q : State → Prop} {ls : Array Slot} {E : TE} {b L i : Nat} {xs : Nat → Int32} {x m x1 m1 : XS} {g g1 o : Int64} {r bb : Int64} (hx : p.tables.exec = Jvm.exec) (hb : c.code = cL_law) (hml : c.maxLocals = 9) (hown : s.vm.findClass RL = some mi.cls) (hB : ∀ w ∈ BG, w.before args s = true) (hK : Ks E s) (hX : va_X b L xs s s.heap) (hbl : b < s.heap.size) (hbA : ¬ Ah E b) (hL : L ≤ 2560) (hi : i + 5 ≤ L) (hcap0 : cells ≤ 601024 ∧ slots ≤ 7293033) (hf : f_X4_digest x = some (r, x1)) (hm : f_X5_digest m g = some (bb, m1, g1)) (heq : r = bb) (hW : Wd E x m g o H) (hS : va_S (Ah E) s.heap H locs) (hl : lv_has ls 9 [(0, .ref b), (1, rf E 0), (2, rf E 211), (3, rf E 217), (4, .int (nI i))])
    (next : ∀ (H : Heap) (locs : List Loc) (ls : Array Slot), Wd E x1 m1 g1 o H → va_S (Ah E) s.heap H locs → lv_has ls 9 [(0, .ref b), (1, rf E 0), (2, rf E 211), (3, rf E 217), (4, .int (nI i))] → W p l e room_1 s mi args below meth c H locs cells slots Q (F0 mi 1714 ls [])) : W p l e room_1 s mi args below meth c H locs cells slots Q (F0 mi 1700 ls []) := by
  refine lv_aload_n hx hb dL_law_1700 rfl (lv_at hl 1 rfl) ?_
  refine c_V (As := []) (st1 := [.long r]) (rest := []) (p_X4_digest l E x m g o hf) (kl_183 hB ⟨Nat.le_of_ble_eq_true rfl, Nat.le_of_ble_eq_true rfl⟩) (Wd.rec hK hW (by decide) cX_0 (ci := 4) rfl) hx hb hml hown hB hK hW hS hcap0 rfl hl.1 rfl (Nat.le_of_ble_eq_true rfl) rfl dL_law_1701 (fun H locs hW hS => ?_)
  refine lv_aload_n hx hb dL_law_1704 rfl (lv_at hl 2 rfl) ?_
  refine c_V (As := []) (st1 := [.long bb, .long r]) (rest := [.long r]) (p_X5_digest l E x1 m g o hm) (kl_187 hB ⟨Nat.le_of_ble_eq_true rfl, Nat.le_of_ble_eq_true rfl⟩) (Wd.rec hK hW (by decide) cM_0 (ci := 5) rfl) hx hb hml hown hB hK hW hS hcap0 rfl hl.1 rfl (Nat.le_of_ble_eq_true rfl) rfl dL_law_1705 (fun H locs hW hS => ?_)
  refine W.lcmp hx hb dL_law_1708 ?_
  refine lv_if_eq (tgt := 1714) hx hb dL_law_1709 (by decide) (fun _ => ?_) (fun c9 => absurd (by rw [heq]; simp [lg_cmp]) c9)
  exact next H locs ls hW hS (lv_sub hl [0, 1, 2, 3, 4] rfl)
