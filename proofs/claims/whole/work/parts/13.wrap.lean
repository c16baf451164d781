theorem q_704 : Cond.classLink RL 13 "java/lang/IndexOutOfBoundsException" ∈ BG := bg 704 (by decide +kernel) rfl
theorem q_705 : Cond.classLink RL 15 "java/lang/IllegalArgumentException" ∈ BG := bg 705 (by decide +kernel) rfl
theorem q_706 : Cond.classLink RL 17 "java/lang/IllegalStateException" ∈ BG := bg 706 (by decide +kernel) rfl
theorem q_707 : Cond.methodLink RL 7 yX4_offer ∈ BG := bg 707 (by decide +kernel) rfl
theorem q_708 : Cond.instanceMethod yX4_offer ∈ BG := bg 708 (by decide +kernel) rfl
theorem q_709 : Cond.selects RX4 yX4_offer yX4_offer ∈ BG := bg 709 (by decide +kernel) rfl
theorem q_710 : Cond.code yX4_offer cX4_offer 5 (some .int) ∈ BG := bg 710 (by decide +kernel) rfl
theorem q_744 : Cond.methodLink RL 19 yX4_takeOff ∈ BG := bg 744 (by decide +kernel) rfl
theorem q_745 : Cond.instanceMethod yX4_takeOff ∈ BG := bg 745 (by decide +kernel) rfl
theorem q_746 : Cond.selects RX4 yX4_takeOff yX4_takeOff ∈ BG := bg 746 (by decide +kernel) rfl
theorem q_747 : Cond.code yX4_takeOff cX4_takeOff 3 (some .int) ∈ BG := bg 747 (by decide +kernel) rfl
theorem q_757 : Cond.methodLink RL 23 yX4_base ∈ BG := bg 757 (by decide +kernel) rfl
theorem q_758 : Cond.instanceMethod yX4_base ∈ BG := bg 758 (by decide +kernel) rfl
theorem q_759 : Cond.selects RX4 yX4_base yX4_base ∈ BG := bg 759 (by decide +kernel) rfl
theorem q_760 : Cond.code yX4_base cX4_base 3 (some .int) ∈ BG := bg 760 (by decide +kernel) rfl
theorem q_769 : Cond.methodLink RL 26 yX4_set ∈ BG := bg 769 (by decide +kernel) rfl
theorem q_770 : Cond.instanceMethod yX4_set ∈ BG := bg 770 (by decide +kernel) rfl
theorem q_771 : Cond.selects RX4 yX4_set yX4_set ∈ BG := bg 771 (by decide +kernel) rfl
theorem q_772 : Cond.code yX4_set cX4_set 3 (some .int) ∈ BG := bg 772 (by decide +kernel) rfl
theorem q_787 : Cond.methodLink RL 29 yX4_complain ∈ BG := bg 787 (by decide +kernel) rfl
theorem q_788 : Cond.instanceMethod yX4_complain ∈ BG := bg 788 (by decide +kernel) rfl
theorem q_789 : Cond.selects RX4 yX4_complain yX4_complain ∈ BG := bg 789 (by decide +kernel) rfl
theorem q_790 : Cond.code yX4_complain cX4_complain 4 (some .int) ∈ BG := bg 790 (by decide +kernel) rfl
theorem q_798 : Cond.methodLink RL 33 yX4_decide ∈ BG := bg 798 (by decide +kernel) rfl
theorem q_799 : Cond.instanceMethod yX4_decide ∈ BG := bg 799 (by decide +kernel) rfl
theorem q_800 : Cond.selects RX4 yX4_decide yX4_decide ∈ BG := bg 800 (by decide +kernel) rfl
theorem q_801 : Cond.code yX4_decide cX4_decide 4 (some .int) ∈ BG := bg 801 (by decide +kernel) rfl
theorem q_817 : Cond.methodLink RL 36 yX4_appeal ∈ BG := bg 817 (by decide +kernel) rfl
theorem q_818 : Cond.instanceMethod yX4_appeal ∈ BG := bg 818 (by decide +kernel) rfl
theorem q_819 : Cond.selects RX4 yX4_appeal yX4_appeal ∈ BG := bg 819 (by decide +kernel) rfl
theorem q_820 : Cond.code yX4_appeal cX4_appeal 2 (some .int) ∈ BG := bg 820 (by decide +kernel) rfl
theorem q_829 : Cond.methodLink RL 40 yX4_judge ∈ BG := bg 829 (by decide +kernel) rfl
theorem q_830 : Cond.instanceMethod yX4_judge ∈ BG := bg 830 (by decide +kernel) rfl
theorem q_831 : Cond.selects RX4 yX4_judge yX4_judge ∈ BG := bg 831 (by decide +kernel) rfl
theorem q_832 : Cond.code yX4_judge cX4_judge 3 (some .int) ∈ BG := bg 832 (by decide +kernel) rfl
theorem q_836 : Cond.methodLink RL 43 yX4_closeMonth ∈ BG := bg 836 (by decide +kernel) rfl
theorem q_837 : Cond.instanceMethod yX4_closeMonth ∈ BG := bg 837 (by decide +kernel) rfl
theorem q_838 : Cond.selects RX4 yX4_closeMonth yX4_closeMonth ∈ BG := bg 838 (by decide +kernel) rfl
theorem q_839 : Cond.code yX4_closeMonth cX4_closeMonth 1 (some .int) ∈ BG := bg 839 (by decide +kernel) rfl
theorem q_843 : Cond.methodLink RL 47 yX4_append ∈ BG := bg 843 (by decide +kernel) rfl
theorem q_844 : Cond.instanceMethod yX4_append ∈ BG := bg 844 (by decide +kernel) rfl
theorem q_845 : Cond.selects RX4 yX4_append yX4_append ∈ BG := bg 845 (by decide +kernel) rfl
theorem q_846 : Cond.code yX4_append cX4_append 2 (some .int) ∈ BG := bg 846 (by decide +kernel) rfl
theorem q_850 : Cond.methodLink RL 50 yX4_complainAll ∈ BG := bg 850 (by decide +kernel) rfl
theorem q_851 : Cond.instanceMethod yX4_complainAll ∈ BG := bg 851 (by decide +kernel) rfl
theorem q_852 : Cond.selects RX4 yX4_complainAll yX4_complainAll ∈ BG := bg 852 (by decide +kernel) rfl
theorem q_853 : Cond.code yX4_complainAll cX4_complainAll 4 (some .int) ∈ BG := bg 853 (by decide +kernel) rfl
theorem q_862 : Cond.methodLink RL 53 yX4_undo ∈ BG := bg 862 (by decide +kernel) rfl
theorem q_863 : Cond.instanceMethod yX4_undo ∈ BG := bg 863 (by decide +kernel) rfl
theorem q_864 : Cond.selects RX4 yX4_undo yX4_undo ∈ BG := bg 864 (by decide +kernel) rfl
theorem q_865 : Cond.code yX4_undo cX4_undo 1 (some .int) ∈ BG := bg 865 (by decide +kernel) rfl
theorem q_869 : Cond.methodLink RL 56 yX4_complaint ∈ BG := bg 869 (by decide +kernel) rfl
theorem q_873 : Cond.methodLink RL 59 yX4_amends ∈ BG := bg 873 (by decide +kernel) rfl
theorem q_877 : Cond.methodLink RL 62 yX4_precedent ∈ BG := bg 877 (by decide +kernel) rfl
theorem q_881 : Cond.methodLink RL 65 yX4_kind ∈ BG := bg 881 (by decide +kernel) rfl
theorem q_885 : Cond.methodLink RL 68 yX4_count ∈ BG := bg 885 (by decide +kernel) rfl
theorem q_889 : Cond.methodLink RL 71 yX4_setting ∈ BG := bg 889 (by decide +kernel) rfl
theorem q_893 : Cond.methodLink RL 74 yX4_ofCustomer ∈ BG := bg 893 (by decide +kernel) rfl
theorem q_897 : Cond.methodLink RL 77 yX4_whyNot ∈ BG := bg 897 (by decide +kernel) rfl
theorem q_901 : Cond.methodLink RL 80 yX4_fair ∈ BG := bg 901 (by decide +kernel) rfl
theorem q_905 : Cond.methodLink RL 83 yX4_ifJudged ∈ BG := bg 905 (by decide +kernel) rfl
theorem nwc_1 : Cond.castable "java/lang/IndexOutOfBoundsException" "java/lang/IndexOutOfBoundsException" ∈ NW := List.mem_of_getElem? (i := 20) rfl
theorem nwc_2 : Cond.castable "java/lang/IllegalArgumentException" "java/lang/IllegalArgumentException" ∈ NW := List.mem_of_getElem? (i := 21) rfl
theorem nwc_3 : Cond.castable "java/lang/IllegalStateException" "java/lang/IllegalStateException" ∈ NW := List.mem_of_getElem? (i := 22) rfl
theorem kT_V {R : Room} {s : State} {args : Array Value} {own C : String} {index k d n : Nat} {y : MethodName} {b : ByteArray} {ret : Option FieldType} (hB : ∀ w ∈ BG, w.before args s = true) (hcode : Cond.code y b n ret ∈ BG) (hini : Cond.initialized y.cls ∈ BG) (hl : Cond.methodLink own index y ∈ BG) (hin : Cond.instanceMethod y ∈ BG) (hsel : Cond.selects C y y ∈ BG) (hd : y.cls ≠ "java/lang/invoke/MethodHandle" ∧ y.cls ≠ "java/lang/invoke/VarHandle" ∧ (parseMethodDescriptor y.desc).map (fun d => d.parameters.length) = some k) (hR : (rmT d).frames + 1 ≤ R.frames ∧ 8 + (n + 11) + (rmT d).locals ≤ R.locals) :
    CallW R s args own C index y b n ret (wsM y b n ret) (rmT d) 1 6 k :=
  ⟨callB_of k hB (wsM_good hcode) rfl rfl rfl (hB _ hini) (hB _ hl) hd hR, hB _ hin, hB _ hsel⟩
theorem kw_7 {R : Room} {s : State} {args : Array Value} (hB : ∀ w ∈ BG, w.before args s = true) (hR : (rmH 6).frames + 1 ≤ R.frames ∧ 8 + (5 + 11) + (rmH 6).locals ≤ R.locals) : CallW R s args RL RX4 7 yX4_offer cX4_offer 5 (some .int) (wsM yX4_offer cX4_offer 5 (some .int)) (rmH 6) 0 0 4 := k_V hB q_710 q_58 q_707 q_708 q_709 (by decide +kernel) hR
theorem kwT_7 {R : Room} {s : State} {args : Array Value} (hB : ∀ w ∈ BG, w.before args s = true) (hR : (rmT 7).frames + 1 ≤ R.frames ∧ 8 + (5 + 11) + (rmT 7).locals ≤ R.locals) : CallW R s args RL RX4 7 yX4_offer cX4_offer 5 (some .int) (wsM yX4_offer cX4_offer 5 (some .int)) (rmT 7) 1 6 4 := kT_V hB q_710 q_58 q_707 q_708 q_709 (by decide +kernel) hR
theorem kw_19 {R : Room} {s : State} {args : Array Value} (hB : ∀ w ∈ BG, w.before args s = true) (hR : (rmH 6).frames + 1 ≤ R.frames ∧ 8 + (3 + 11) + (rmH 6).locals ≤ R.locals) : CallW R s args RL RX4 19 yX4_takeOff cX4_takeOff 3 (some .int) (wsM yX4_takeOff cX4_takeOff 3 (some .int)) (rmH 6) 0 0 2 := k_V hB q_747 q_58 q_744 q_745 q_746 (by decide +kernel) hR
theorem kwT_19 {R : Room} {s : State} {args : Array Value} (hB : ∀ w ∈ BG, w.before args s = true) (hR : (rmT 7).frames + 1 ≤ R.frames ∧ 8 + (3 + 11) + (rmT 7).locals ≤ R.locals) : CallW R s args RL RX4 19 yX4_takeOff cX4_takeOff 3 (some .int) (wsM yX4_takeOff cX4_takeOff 3 (some .int)) (rmT 7) 1 6 2 := kT_V hB q_747 q_58 q_744 q_745 q_746 (by decide +kernel) hR
theorem kw_23 {R : Room} {s : State} {args : Array Value} (hB : ∀ w ∈ BG, w.before args s = true) (hR : (rmH 6).frames + 1 ≤ R.frames ∧ 8 + (3 + 11) + (rmH 6).locals ≤ R.locals) : CallW R s args RL RX4 23 yX4_base cX4_base 3 (some .int) (wsM yX4_base cX4_base 3 (some .int)) (rmH 6) 0 0 2 := k_V hB q_760 q_58 q_757 q_758 q_759 (by decide +kernel) hR
theorem kwT_23 {R : Room} {s : State} {args : Array Value} (hB : ∀ w ∈ BG, w.before args s = true) (hR : (rmT 7).frames + 1 ≤ R.frames ∧ 8 + (3 + 11) + (rmT 7).locals ≤ R.locals) : CallW R s args RL RX4 23 yX4_base cX4_base 3 (some .int) (wsM yX4_base cX4_base 3 (some .int)) (rmT 7) 1 6 2 := kT_V hB q_760 q_58 q_757 q_758 q_759 (by decide +kernel) hR
theorem kw_26 {R : Room} {s : State} {args : Array Value} (hB : ∀ w ∈ BG, w.before args s = true) (hR : (rmH 6).frames + 1 ≤ R.frames ∧ 8 + (3 + 11) + (rmH 6).locals ≤ R.locals) : CallW R s args RL RX4 26 yX4_set cX4_set 3 (some .int) (wsM yX4_set cX4_set 3 (some .int)) (rmH 6) 0 0 2 := k_V hB q_772 q_58 q_769 q_770 q_771 (by decide +kernel) hR
theorem kwT_26 {R : Room} {s : State} {args : Array Value} (hB : ∀ w ∈ BG, w.before args s = true) (hR : (rmT 7).frames + 1 ≤ R.frames ∧ 8 + (3 + 11) + (rmT 7).locals ≤ R.locals) : CallW R s args RL RX4 26 yX4_set cX4_set 3 (some .int) (wsM yX4_set cX4_set 3 (some .int)) (rmT 7) 1 6 2 := kT_V hB q_772 q_58 q_769 q_770 q_771 (by decide +kernel) hR
theorem kw_29 {R : Room} {s : State} {args : Array Value} (hB : ∀ w ∈ BG, w.before args s = true) (hR : (rmH 6).frames + 1 ≤ R.frames ∧ 8 + (4 + 11) + (rmH 6).locals ≤ R.locals) : CallW R s args RL RX4 29 yX4_complain cX4_complain 4 (some .int) (wsM yX4_complain cX4_complain 4 (some .int)) (rmH 6) 0 0 3 := k_V hB q_790 q_58 q_787 q_788 q_789 (by decide +kernel) hR
theorem kwT_29 {R : Room} {s : State} {args : Array Value} (hB : ∀ w ∈ BG, w.before args s = true) (hR : (rmT 7).frames + 1 ≤ R.frames ∧ 8 + (4 + 11) + (rmT 7).locals ≤ R.locals) : CallW R s args RL RX4 29 yX4_complain cX4_complain 4 (some .int) (wsM yX4_complain cX4_complain 4 (some .int)) (rmT 7) 1 6 3 := kT_V hB q_790 q_58 q_787 q_788 q_789 (by decide +kernel) hR
theorem kw_33 {R : Room} {s : State} {args : Array Value} (hB : ∀ w ∈ BG, w.before args s = true) (hR : (rmH 6).frames + 1 ≤ R.frames ∧ 8 + (4 + 11) + (rmH 6).locals ≤ R.locals) : CallW R s args RL RX4 33 yX4_decide cX4_decide 4 (some .int) (wsM yX4_decide cX4_decide 4 (some .int)) (rmH 6) 0 0 3 := k_V hB q_801 q_58 q_798 q_799 q_800 (by decide +kernel) hR
theorem kwT_33 {R : Room} {s : State} {args : Array Value} (hB : ∀ w ∈ BG, w.before args s = true) (hR : (rmT 7).frames + 1 ≤ R.frames ∧ 8 + (4 + 11) + (rmT 7).locals ≤ R.locals) : CallW R s args RL RX4 33 yX4_decide cX4_decide 4 (some .int) (wsM yX4_decide cX4_decide 4 (some .int)) (rmT 7) 1 6 3 := kT_V hB q_801 q_58 q_798 q_799 q_800 (by decide +kernel) hR
theorem kw_36 {R : Room} {s : State} {args : Array Value} (hB : ∀ w ∈ BG, w.before args s = true) (hR : (rmH 6).frames + 1 ≤ R.frames ∧ 8 + (2 + 11) + (rmH 6).locals ≤ R.locals) : CallW R s args RL RX4 36 yX4_appeal cX4_appeal 2 (some .int) (wsM yX4_appeal cX4_appeal 2 (some .int)) (rmH 6) 0 0 1 := k_V hB q_820 q_58 q_817 q_818 q_819 (by decide +kernel) hR
theorem kwT_36 {R : Room} {s : State} {args : Array Value} (hB : ∀ w ∈ BG, w.before args s = true) (hR : (rmT 7).frames + 1 ≤ R.frames ∧ 8 + (2 + 11) + (rmT 7).locals ≤ R.locals) : CallW R s args RL RX4 36 yX4_appeal cX4_appeal 2 (some .int) (wsM yX4_appeal cX4_appeal 2 (some .int)) (rmT 7) 1 6 1 := kT_V hB q_820 q_58 q_817 q_818 q_819 (by decide +kernel) hR
theorem kw_40 {R : Room} {s : State} {args : Array Value} (hB : ∀ w ∈ BG, w.before args s = true) (hR : (rmH 6).frames + 1 ≤ R.frames ∧ 8 + (3 + 11) + (rmH 6).locals ≤ R.locals) : CallW R s args RL RX4 40 yX4_judge cX4_judge 3 (some .int) (wsM yX4_judge cX4_judge 3 (some .int)) (rmH 6) 0 0 2 := k_V hB q_832 q_58 q_829 q_830 q_831 (by decide +kernel) hR
theorem kwT_40 {R : Room} {s : State} {args : Array Value} (hB : ∀ w ∈ BG, w.before args s = true) (hR : (rmT 7).frames + 1 ≤ R.frames ∧ 8 + (3 + 11) + (rmT 7).locals ≤ R.locals) : CallW R s args RL RX4 40 yX4_judge cX4_judge 3 (some .int) (wsM yX4_judge cX4_judge 3 (some .int)) (rmT 7) 1 6 2 := kT_V hB q_832 q_58 q_829 q_830 q_831 (by decide +kernel) hR
theorem kw_43 {R : Room} {s : State} {args : Array Value} (hB : ∀ w ∈ BG, w.before args s = true) (hR : (rmH 6).frames + 1 ≤ R.frames ∧ 8 + (1 + 11) + (rmH 6).locals ≤ R.locals) : CallW R s args RL RX4 43 yX4_closeMonth cX4_closeMonth 1 (some .int) (wsM yX4_closeMonth cX4_closeMonth 1 (some .int)) (rmH 6) 0 0 0 := k_V hB q_839 q_58 q_836 q_837 q_838 (by decide +kernel) hR
theorem kwT_43 {R : Room} {s : State} {args : Array Value} (hB : ∀ w ∈ BG, w.before args s = true) (hR : (rmT 7).frames + 1 ≤ R.frames ∧ 8 + (1 + 11) + (rmT 7).locals ≤ R.locals) : CallW R s args RL RX4 43 yX4_closeMonth cX4_closeMonth 1 (some .int) (wsM yX4_closeMonth cX4_closeMonth 1 (some .int)) (rmT 7) 1 6 0 := kT_V hB q_839 q_58 q_836 q_837 q_838 (by decide +kernel) hR
theorem kw_47 {R : Room} {s : State} {args : Array Value} (hB : ∀ w ∈ BG, w.before args s = true) (hR : (rmH 2).frames + 1 ≤ R.frames ∧ 8 + (2 + 11) + (rmH 2).locals ≤ R.locals) : CallW R s args RL RX4 47 yX4_append cX4_append 2 (some .int) (wsM yX4_append cX4_append 2 (some .int)) (rmH 2) 0 0 1 := k_V hB q_846 q_58 q_843 q_844 q_845 (by decide +kernel) hR
theorem kwT_47 {R : Room} {s : State} {args : Array Value} (hB : ∀ w ∈ BG, w.before args s = true) (hR : (rmT 7).frames + 1 ≤ R.frames ∧ 8 + (2 + 11) + (rmT 7).locals ≤ R.locals) : CallW R s args RL RX4 47 yX4_append cX4_append 2 (some .int) (wsM yX4_append cX4_append 2 (some .int)) (rmT 7) 1 6 1 := kT_V hB q_846 q_58 q_843 q_844 q_845 (by decide +kernel) hR
theorem kw_50 {R : Room} {s : State} {args : Array Value} (hB : ∀ w ∈ BG, w.before args s = true) (hR : (rmH 6).frames + 1 ≤ R.frames ∧ 8 + (4 + 11) + (rmH 6).locals ≤ R.locals) : CallW R s args RL RX4 50 yX4_complainAll cX4_complainAll 4 (some .int) (wsM yX4_complainAll cX4_complainAll 4 (some .int)) (rmH 6) 0 0 0 := k_V hB q_853 q_58 q_850 q_851 q_852 (by decide +kernel) hR
theorem kwT_50 {R : Room} {s : State} {args : Array Value} (hB : ∀ w ∈ BG, w.before args s = true) (hR : (rmT 7).frames + 1 ≤ R.frames ∧ 8 + (4 + 11) + (rmT 7).locals ≤ R.locals) : CallW R s args RL RX4 50 yX4_complainAll cX4_complainAll 4 (some .int) (wsM yX4_complainAll cX4_complainAll 4 (some .int)) (rmT 7) 1 6 0 := kT_V hB q_853 q_58 q_850 q_851 q_852 (by decide +kernel) hR
theorem kw_53 {R : Room} {s : State} {args : Array Value} (hB : ∀ w ∈ BG, w.before args s = true) (hR : (rmH 5).frames + 1 ≤ R.frames ∧ 8 + (1 + 11) + (rmH 5).locals ≤ R.locals) : CallW R s args RL RX4 53 yX4_undo cX4_undo 1 (some .int) (wsM yX4_undo cX4_undo 1 (some .int)) (rmH 5) 0 0 0 := k_V hB q_865 q_58 q_862 q_863 q_864 (by decide +kernel) hR
theorem kwT_53 {R : Room} {s : State} {args : Array Value} (hB : ∀ w ∈ BG, w.before args s = true) (hR : (rmT 7).frames + 1 ≤ R.frames ∧ 8 + (1 + 11) + (rmT 7).locals ≤ R.locals) : CallW R s args RL RX4 53 yX4_undo cX4_undo 1 (some .int) (wsM yX4_undo cX4_undo 1 (some .int)) (rmT 7) 1 6 0 := kT_V hB q_865 q_58 q_862 q_863 q_864 (by decide +kernel) hR
theorem kw_56 {R : Room} {s : State} {args : Array Value} (hB : ∀ w ∈ BG, w.before args s = true) (hR : (rmH 5).frames + 1 ≤ R.frames ∧ 8 + (3 + 11) + (rmH 5).locals ≤ R.locals) : CallW R s args RL RX4 56 yX4_complaint cX4_complaint 3 (some .int) (wsM yX4_complaint cX4_complaint 3 (some .int)) (rmH 5) 0 0 2 := k_V hB q_599 q_58 q_869 q_597 q_598 (by decide +kernel) hR
theorem kwT_56 {R : Room} {s : State} {args : Array Value} (hB : ∀ w ∈ BG, w.before args s = true) (hR : (rmT 7).frames + 1 ≤ R.frames ∧ 8 + (3 + 11) + (rmT 7).locals ≤ R.locals) : CallW R s args RL RX4 56 yX4_complaint cX4_complaint 3 (some .int) (wsM yX4_complaint cX4_complaint 3 (some .int)) (rmT 7) 1 6 2 := kT_V hB q_599 q_58 q_869 q_597 q_598 (by decide +kernel) hR
theorem kw_59 {R : Room} {s : State} {args : Array Value} (hB : ∀ w ∈ BG, w.before args s = true) (hR : (rmH 3).frames + 1 ≤ R.frames ∧ 8 + (4 + 11) + (rmH 3).locals ≤ R.locals) : CallW R s args RL RX4 59 yX4_amends cX4_amends 4 (some .int) (wsM yX4_amends cX4_amends 4 (some .int)) (rmH 3) 0 0 3 := k_V hB q_539 q_58 q_873 q_537 q_538 (by decide +kernel) hR
theorem kwT_59 {R : Room} {s : State} {args : Array Value} (hB : ∀ w ∈ BG, w.before args s = true) (hR : (rmT 7).frames + 1 ≤ R.frames ∧ 8 + (4 + 11) + (rmT 7).locals ≤ R.locals) : CallW R s args RL RX4 59 yX4_amends cX4_amends 4 (some .int) (wsM yX4_amends cX4_amends 4 (some .int)) (rmT 7) 1 6 3 := kT_V hB q_539 q_58 q_873 q_537 q_538 (by decide +kernel) hR
theorem kw_62 {R : Room} {s : State} {args : Array Value} (hB : ∀ w ∈ BG, w.before args s = true) (hR : (rmH 4).frames + 1 ≤ R.frames ∧ 8 + (5 + 11) + (rmH 4).locals ≤ R.locals) : CallW R s args RL RX4 62 yX4_precedent cX4_precedent 5 (some .int) (wsM yX4_precedent cX4_precedent 5 (some .int)) (rmH 4) 0 0 3 := k_V hB q_565 q_58 q_877 q_563 q_564 (by decide +kernel) hR
theorem kwT_62 {R : Room} {s : State} {args : Array Value} (hB : ∀ w ∈ BG, w.before args s = true) (hR : (rmT 7).frames + 1 ≤ R.frames ∧ 8 + (5 + 11) + (rmT 7).locals ≤ R.locals) : CallW R s args RL RX4 62 yX4_precedent cX4_precedent 5 (some .int) (wsM yX4_precedent cX4_precedent 5 (some .int)) (rmT 7) 1 6 3 := kT_V hB q_565 q_58 q_877 q_563 q_564 (by decide +kernel) hR
theorem kw_65 {R : Room} {s : State} {args : Array Value} (hB : ∀ w ∈ BG, w.before args s = true) (hR : (rmH 5).frames + 1 ≤ R.frames ∧ 8 + (3 + 11) + (rmH 5).locals ≤ R.locals) : CallW R s args RL RX4 65 yX4_kind cX4_kind 3 (some .int) (wsM yX4_kind cX4_kind 3 (some .int)) (rmH 5) 0 0 2 := k_V hB q_508 q_58 q_881 q_506 q_507 (by decide +kernel) hR
theorem kwT_65 {R : Room} {s : State} {args : Array Value} (hB : ∀ w ∈ BG, w.before args s = true) (hR : (rmT 7).frames + 1 ≤ R.frames ∧ 8 + (3 + 11) + (rmT 7).locals ≤ R.locals) : CallW R s args RL RX4 65 yX4_kind cX4_kind 3 (some .int) (wsM yX4_kind cX4_kind 3 (some .int)) (rmT 7) 1 6 2 := kT_V hB q_508 q_58 q_881 q_506 q_507 (by decide +kernel) hR
theorem kw_68 {R : Room} {s : State} {args : Array Value} (hB : ∀ w ∈ BG, w.before args s = true) (hR : (rmH 5).frames + 1 ≤ R.frames ∧ 8 + (2 + 11) + (rmH 5).locals ≤ R.locals) : CallW R s args RL RX4 68 yX4_count cX4_count 2 (some .int) (wsM yX4_count cX4_count 2 (some .int)) (rmH 5) 0 0 1 := k_V hB q_391 q_58 q_885 q_389 q_390 (by decide +kernel) hR
theorem kwT_68 {R : Room} {s : State} {args : Array Value} (hB : ∀ w ∈ BG, w.before args s = true) (hR : (rmT 7).frames + 1 ≤ R.frames ∧ 8 + (2 + 11) + (rmT 7).locals ≤ R.locals) : CallW R s args RL RX4 68 yX4_count cX4_count 2 (some .int) (wsM yX4_count cX4_count 2 (some .int)) (rmT 7) 1 6 1 := kT_V hB q_391 q_58 q_885 q_389 q_390 (by decide +kernel) hR
theorem kw_71 {R : Room} {s : State} {args : Array Value} (hB : ∀ w ∈ BG, w.before args s = true) (hR : (rmH 2).frames + 1 ≤ R.frames ∧ 8 + (2 + 11) + (rmH 2).locals ≤ R.locals) : CallW R s args RL RX4 71 yX4_setting cX4_setting 2 (some .int) (wsM yX4_setting cX4_setting 2 (some .int)) (rmH 2) 0 0 1 := k_V hB q_480 q_58 q_889 q_478 q_479 (by decide +kernel) hR
theorem kwT_71 {R : Room} {s : State} {args : Array Value} (hB : ∀ w ∈ BG, w.before args s = true) (hR : (rmT 7).frames + 1 ≤ R.frames ∧ 8 + (2 + 11) + (rmT 7).locals ≤ R.locals) : CallW R s args RL RX4 71 yX4_setting cX4_setting 2 (some .int) (wsM yX4_setting cX4_setting 2 (some .int)) (rmT 7) 1 6 1 := kT_V hB q_480 q_58 q_889 q_478 q_479 (by decide +kernel) hR
theorem kw_74 {R : Room} {s : State} {args : Array Value} (hB : ∀ w ∈ BG, w.before args s = true) (hR : (rmH 3).frames + 1 ≤ R.frames ∧ 8 + (3 + 11) + (rmH 3).locals ≤ R.locals) : CallW R s args RL RX4 74 yX4_ofCustomer cX4_ofCustomer 3 (some .int) (wsM yX4_ofCustomer cX4_ofCustomer 3 (some .int)) (rmH 3) 0 0 2 := k_V hB q_680 q_58 q_893 q_678 q_679 (by decide +kernel) hR
theorem kwT_74 {R : Room} {s : State} {args : Array Value} (hB : ∀ w ∈ BG, w.before args s = true) (hR : (rmT 7).frames + 1 ≤ R.frames ∧ 8 + (3 + 11) + (rmT 7).locals ≤ R.locals) : CallW R s args RL RX4 74 yX4_ofCustomer cX4_ofCustomer 3 (some .int) (wsM yX4_ofCustomer cX4_ofCustomer 3 (some .int)) (rmT 7) 1 6 2 := kT_V hB q_680 q_58 q_893 q_678 q_679 (by decide +kernel) hR
theorem kw_77 {R : Room} {s : State} {args : Array Value} (hB : ∀ w ∈ BG, w.before args s = true) (hR : (rmH 6).frames + 1 ≤ R.frames ∧ 8 + (4 + 11) + (rmH 6).locals ≤ R.locals) : CallW R s args RL RX4 77 yX4_whyNot cX4_whyNot 4 (some .int) (wsM yX4_whyNot cX4_whyNot 4 (some .int)) (rmH 6) 0 0 3 := k_V hB q_651 q_58 q_897 q_649 q_650 (by decide +kernel) hR
theorem kwT_77 {R : Room} {s : State} {args : Array Value} (hB : ∀ w ∈ BG, w.before args s = true) (hR : (rmT 7).frames + 1 ≤ R.frames ∧ 8 + (4 + 11) + (rmT 7).locals ≤ R.locals) : CallW R s args RL RX4 77 yX4_whyNot cX4_whyNot 4 (some .int) (wsM yX4_whyNot cX4_whyNot 4 (some .int)) (rmT 7) 1 6 3 := kT_V hB q_651 q_58 q_897 q_649 q_650 (by decide +kernel) hR
theorem kw_80 {R : Room} {s : State} {args : Array Value} (hB : ∀ w ∈ BG, w.before args s = true) (hR : (rmH 6).frames + 1 ≤ R.frames ∧ 8 + (6 + 11) + (rmH 6).locals ≤ R.locals) : CallW R s args RL RX4 80 yX4_fair cX4_fair 6 (some .int) (wsM yX4_fair cX4_fair 6 (some .int)) (rmH 6) 0 0 1 := k_V hB q_629 q_58 q_901 q_627 q_628 (by decide +kernel) hR
theorem kwT_80 {R : Room} {s : State} {args : Array Value} (hB : ∀ w ∈ BG, w.before args s = true) (hR : (rmT 7).frames + 1 ≤ R.frames ∧ 8 + (6 + 11) + (rmT 7).locals ≤ R.locals) : CallW R s args RL RX4 80 yX4_fair cX4_fair 6 (some .int) (wsM yX4_fair cX4_fair 6 (some .int)) (rmT 7) 1 6 1 := kT_V hB q_629 q_58 q_901 q_627 q_628 (by decide +kernel) hR
theorem kw_83 {R : Room} {s : State} {args : Array Value} (hB : ∀ w ∈ BG, w.before args s = true) (hR : (rmH 6).frames + 1 ≤ R.frames ∧ 8 + (5 + 11) + (rmH 6).locals ≤ R.locals) : CallW R s args RL RX4 83 yX4_ifJudged cX4_ifJudged 5 (some .int) (wsM yX4_ifJudged cX4_ifJudged 5 (some .int)) (rmH 6) 0 0 3 := k_V hB q_659 q_58 q_905 q_657 q_658 (by decide +kernel) hR
theorem kwT_83 {R : Room} {s : State} {args : Array Value} (hB : ∀ w ∈ BG, w.before args s = true) (hR : (rmT 7).frames + 1 ≤ R.frames ∧ 8 + (5 + 11) + (rmT 7).locals ≤ R.locals) : CallW R s args RL RX4 83 yX4_ifJudged cX4_ifJudged 5 (some .int) (wsM yX4_ifJudged cX4_ifJudged 5 (some .int)) (rmT 7) 1 6 3 := kT_V hB q_659 q_58 q_905 q_657 q_658 (by decide +kernel) hR
theorem dL_offer_0 : decode cL_offer 0 = .ok (.aload 5, 2) := by decide +kernel
theorem dL_offer_2 : decode cL_offer 2 = .ok (.iconst 0, 1) := by decide +kernel
theorem dL_offer_3 : decode cL_offer 3 = .ok (.aload_n 0, 1) := by decide +kernel
theorem dL_offer_4 : decode cL_offer 4 = .ok (.iload_n 1, 1) := by decide +kernel
theorem dL_offer_5 : decode cL_offer 5 = .ok (.iload_n 2, 1) := by decide +kernel
theorem dL_offer_6 : decode cL_offer 6 = .ok (.iload_n 3, 1) := by decide +kernel
theorem dL_offer_7 : decode cL_offer 7 = .ok (.iload 4, 2) := by decide +kernel
theorem dL_offer_9 : decode cL_offer 9 = .ok (.invokevirtual 7, 3) := by decide +kernel
theorem dL_offer_12 : decode cL_offer 12 = .ok (.i2l, 1) := by decide +kernel
theorem dL_offer_13 : decode cL_offer 13 = .ok (.lastore, 1) := by decide +kernel
theorem dL_offer_14 : decode cL_offer 14 = .ok (.goto 15, 3) := by decide +kernel
theorem dL_offer_17 : decode cL_offer 17 = .ok (.astore 6, 2) := by decide +kernel
theorem dL_offer_19 : decode cL_offer 19 = .ok (.iconst 1, 1) := by decide +kernel
theorem dL_offer_20 : decode cL_offer 20 = .ok (.ireturn, 1) := by decide +kernel
theorem dL_offer_21 : decode cL_offer 21 = .ok (.astore 6, 2) := by decide +kernel
theorem dL_offer_23 : decode cL_offer 23 = .ok (.iconst 2, 1) := by decide +kernel
theorem dL_offer_24 : decode cL_offer 24 = .ok (.ireturn, 1) := by decide +kernel
theorem dL_offer_25 : decode cL_offer 25 = .ok (.astore 6, 2) := by decide +kernel
theorem dL_offer_27 : decode cL_offer 27 = .ok (.iconst 3, 1) := by decide +kernel
theorem dL_offer_28 : decode cL_offer 28 = .ok (.ireturn, 1) := by decide +kernel
theorem dL_offer_29 : decode cL_offer 29 = .ok (.iconst 0, 1) := by decide +kernel
theorem dL_offer_30 : decode cL_offer 30 = .ok (.ireturn, 1) := by decide +kernel
theorem dL_takeOff_0 : decode cL_takeOff 0 = .ok (.aload_n 3, 1) := by decide +kernel
theorem dL_takeOff_1 : decode cL_takeOff 1 = .ok (.iconst 0, 1) := by decide +kernel
theorem dL_takeOff_2 : decode cL_takeOff 2 = .ok (.aload_n 0, 1) := by decide +kernel
theorem dL_takeOff_3 : decode cL_takeOff 3 = .ok (.iload_n 1, 1) := by decide +kernel
theorem dL_takeOff_4 : decode cL_takeOff 4 = .ok (.iload_n 2, 1) := by decide +kernel
theorem dL_takeOff_5 : decode cL_takeOff 5 = .ok (.invokevirtual 19, 3) := by decide +kernel
theorem dL_takeOff_8 : decode cL_takeOff 8 = .ok (.i2l, 1) := by decide +kernel
theorem dL_takeOff_9 : decode cL_takeOff 9 = .ok (.lastore, 1) := by decide +kernel
theorem dL_takeOff_10 : decode cL_takeOff 10 = .ok (.goto 11, 3) := by decide +kernel
theorem dL_takeOff_13 : decode cL_takeOff 13 = .ok (.astore 4, 2) := by decide +kernel
theorem dL_takeOff_15 : decode cL_takeOff 15 = .ok (.iconst 1, 1) := by decide +kernel
theorem dL_takeOff_16 : decode cL_takeOff 16 = .ok (.ireturn, 1) := by decide +kernel
theorem dL_takeOff_17 : decode cL_takeOff 17 = .ok (.astore 4, 2) := by decide +kernel
theorem dL_takeOff_19 : decode cL_takeOff 19 = .ok (.iconst 2, 1) := by decide +kernel
theorem dL_takeOff_20 : decode cL_takeOff 20 = .ok (.ireturn, 1) := by decide +kernel
theorem dL_takeOff_21 : decode cL_takeOff 21 = .ok (.iconst 0, 1) := by decide +kernel
theorem dL_takeOff_22 : decode cL_takeOff 22 = .ok (.ireturn, 1) := by decide +kernel
theorem dL_base_0 : decode cL_base 0 = .ok (.aload_n 3, 1) := by decide +kernel
theorem dL_base_1 : decode cL_base 1 = .ok (.iconst 0, 1) := by decide +kernel
theorem dL_base_2 : decode cL_base 2 = .ok (.aload_n 0, 1) := by decide +kernel
theorem dL_base_3 : decode cL_base 3 = .ok (.iload_n 1, 1) := by decide +kernel
theorem dL_base_4 : decode cL_base 4 = .ok (.iload_n 2, 1) := by decide +kernel
theorem dL_base_5 : decode cL_base 5 = .ok (.invokevirtual 23, 3) := by decide +kernel
theorem dL_base_8 : decode cL_base 8 = .ok (.i2l, 1) := by decide +kernel
theorem dL_base_9 : decode cL_base 9 = .ok (.lastore, 1) := by decide +kernel
theorem dL_base_10 : decode cL_base 10 = .ok (.goto 11, 3) := by decide +kernel
theorem dL_base_13 : decode cL_base 13 = .ok (.astore 4, 2) := by decide +kernel
theorem dL_base_15 : decode cL_base 15 = .ok (.iconst 1, 1) := by decide +kernel
theorem dL_base_16 : decode cL_base 16 = .ok (.ireturn, 1) := by decide +kernel
theorem dL_base_17 : decode cL_base 17 = .ok (.astore 4, 2) := by decide +kernel
theorem dL_base_19 : decode cL_base 19 = .ok (.iconst 2, 1) := by decide +kernel
theorem dL_base_20 : decode cL_base 20 = .ok (.ireturn, 1) := by decide +kernel
theorem dL_base_21 : decode cL_base 21 = .ok (.iconst 0, 1) := by decide +kernel
theorem dL_base_22 : decode cL_base 22 = .ok (.ireturn, 1) := by decide +kernel
theorem dL_set_0 : decode cL_set 0 = .ok (.aload_n 3, 1) := by decide +kernel
theorem dL_set_1 : decode cL_set 1 = .ok (.iconst 0, 1) := by decide +kernel
theorem dL_set_2 : decode cL_set 2 = .ok (.aload_n 0, 1) := by decide +kernel
theorem dL_set_3 : decode cL_set 3 = .ok (.iload_n 1, 1) := by decide +kernel
theorem dL_set_4 : decode cL_set 4 = .ok (.iload_n 2, 1) := by decide +kernel
theorem dL_set_5 : decode cL_set 5 = .ok (.invokevirtual 26, 3) := by decide +kernel
theorem dL_set_8 : decode cL_set 8 = .ok (.i2l, 1) := by decide +kernel
theorem dL_set_9 : decode cL_set 9 = .ok (.lastore, 1) := by decide +kernel
theorem dL_set_10 : decode cL_set 10 = .ok (.goto 11, 3) := by decide +kernel
theorem dL_set_13 : decode cL_set 13 = .ok (.astore 4, 2) := by decide +kernel
theorem dL_set_15 : decode cL_set 15 = .ok (.iconst 1, 1) := by decide +kernel
theorem dL_set_16 : decode cL_set 16 = .ok (.ireturn, 1) := by decide +kernel
theorem dL_set_17 : decode cL_set 17 = .ok (.astore 4, 2) := by decide +kernel
theorem dL_set_19 : decode cL_set 19 = .ok (.iconst 2, 1) := by decide +kernel
theorem dL_set_20 : decode cL_set 20 = .ok (.ireturn, 1) := by decide +kernel
theorem dL_set_21 : decode cL_set 21 = .ok (.iconst 0, 1) := by decide +kernel
theorem dL_set_22 : decode cL_set 22 = .ok (.ireturn, 1) := by decide +kernel
theorem dL_complain_0 : decode cL_complain 0 = .ok (.aload 4, 2) := by decide +kernel
theorem dL_complain_2 : decode cL_complain 2 = .ok (.iconst 0, 1) := by decide +kernel
theorem dL_complain_3 : decode cL_complain 3 = .ok (.aload_n 0, 1) := by decide +kernel
theorem dL_complain_4 : decode cL_complain 4 = .ok (.iload_n 1, 1) := by decide +kernel
theorem dL_complain_5 : decode cL_complain 5 = .ok (.iload_n 2, 1) := by decide +kernel
theorem dL_complain_6 : decode cL_complain 6 = .ok (.iload_n 3, 1) := by decide +kernel
theorem dL_complain_7 : decode cL_complain 7 = .ok (.invokevirtual 29, 3) := by decide +kernel
theorem dL_complain_10 : decode cL_complain 10 = .ok (.i2l, 1) := by decide +kernel
theorem dL_complain_11 : decode cL_complain 11 = .ok (.lastore, 1) := by decide +kernel
theorem dL_complain_12 : decode cL_complain 12 = .ok (.goto 15, 3) := by decide +kernel
theorem dL_complain_15 : decode cL_complain 15 = .ok (.astore 5, 2) := by decide +kernel
theorem dL_complain_17 : decode cL_complain 17 = .ok (.iconst 1, 1) := by decide +kernel
theorem dL_complain_18 : decode cL_complain 18 = .ok (.ireturn, 1) := by decide +kernel
theorem dL_complain_19 : decode cL_complain 19 = .ok (.astore 5, 2) := by decide +kernel
theorem dL_complain_21 : decode cL_complain 21 = .ok (.iconst 2, 1) := by decide +kernel
theorem dL_complain_22 : decode cL_complain 22 = .ok (.ireturn, 1) := by decide +kernel
theorem dL_complain_23 : decode cL_complain 23 = .ok (.astore 5, 2) := by decide +kernel
theorem dL_complain_25 : decode cL_complain 25 = .ok (.iconst 3, 1) := by decide +kernel
theorem dL_complain_26 : decode cL_complain 26 = .ok (.ireturn, 1) := by decide +kernel
theorem dL_complain_27 : decode cL_complain 27 = .ok (.iconst 0, 1) := by decide +kernel
theorem dL_complain_28 : decode cL_complain 28 = .ok (.ireturn, 1) := by decide +kernel
theorem dL_decide_0 : decode cL_decide 0 = .ok (.aload 4, 2) := by decide +kernel
theorem dL_decide_2 : decode cL_decide 2 = .ok (.iconst 0, 1) := by decide +kernel
theorem dL_decide_3 : decode cL_decide 3 = .ok (.aload_n 0, 1) := by decide +kernel
theorem dL_decide_4 : decode cL_decide 4 = .ok (.iload_n 1, 1) := by decide +kernel
theorem dL_decide_5 : decode cL_decide 5 = .ok (.iload_n 2, 1) := by decide +kernel
theorem dL_decide_6 : decode cL_decide 6 = .ok (.iload_n 3, 1) := by decide +kernel
theorem dL_decide_7 : decode cL_decide 7 = .ok (.invokevirtual 33, 3) := by decide +kernel
theorem dL_decide_10 : decode cL_decide 10 = .ok (.i2l, 1) := by decide +kernel
theorem dL_decide_11 : decode cL_decide 11 = .ok (.lastore, 1) := by decide +kernel
theorem dL_decide_12 : decode cL_decide 12 = .ok (.goto 15, 3) := by decide +kernel
theorem dL_decide_15 : decode cL_decide 15 = .ok (.astore 5, 2) := by decide +kernel
theorem dL_decide_17 : decode cL_decide 17 = .ok (.iconst 1, 1) := by decide +kernel
theorem dL_decide_18 : decode cL_decide 18 = .ok (.ireturn, 1) := by decide +kernel
theorem dL_decide_19 : decode cL_decide 19 = .ok (.astore 5, 2) := by decide +kernel
theorem dL_decide_21 : decode cL_decide 21 = .ok (.iconst 2, 1) := by decide +kernel
theorem dL_decide_22 : decode cL_decide 22 = .ok (.ireturn, 1) := by decide +kernel
theorem dL_decide_23 : decode cL_decide 23 = .ok (.astore 5, 2) := by decide +kernel
theorem dL_decide_25 : decode cL_decide 25 = .ok (.iconst 3, 1) := by decide +kernel
theorem dL_decide_26 : decode cL_decide 26 = .ok (.ireturn, 1) := by decide +kernel
theorem dL_decide_27 : decode cL_decide 27 = .ok (.iconst 0, 1) := by decide +kernel
theorem dL_decide_28 : decode cL_decide 28 = .ok (.ireturn, 1) := by decide +kernel
theorem dL_appeal_0 : decode cL_appeal 0 = .ok (.aload_n 2, 1) := by decide +kernel
theorem dL_appeal_1 : decode cL_appeal 1 = .ok (.iconst 0, 1) := by decide +kernel
theorem dL_appeal_2 : decode cL_appeal 2 = .ok (.aload_n 0, 1) := by decide +kernel
theorem dL_appeal_3 : decode cL_appeal 3 = .ok (.iload_n 1, 1) := by decide +kernel
theorem dL_appeal_4 : decode cL_appeal 4 = .ok (.invokevirtual 36, 3) := by decide +kernel
theorem dL_appeal_7 : decode cL_appeal 7 = .ok (.i2l, 1) := by decide +kernel
theorem dL_appeal_8 : decode cL_appeal 8 = .ok (.lastore, 1) := by decide +kernel
theorem dL_appeal_9 : decode cL_appeal 9 = .ok (.goto 9, 3) := by decide +kernel
theorem dL_appeal_12 : decode cL_appeal 12 = .ok (.astore_n 3, 1) := by decide +kernel
theorem dL_appeal_13 : decode cL_appeal 13 = .ok (.iconst 1, 1) := by decide +kernel
theorem dL_appeal_14 : decode cL_appeal 14 = .ok (.ireturn, 1) := by decide +kernel
theorem dL_appeal_15 : decode cL_appeal 15 = .ok (.astore_n 3, 1) := by decide +kernel
theorem dL_appeal_16 : decode cL_appeal 16 = .ok (.iconst 2, 1) := by decide +kernel
theorem dL_appeal_17 : decode cL_appeal 17 = .ok (.ireturn, 1) := by decide +kernel
theorem dL_appeal_18 : decode cL_appeal 18 = .ok (.iconst 0, 1) := by decide +kernel
theorem dL_appeal_19 : decode cL_appeal 19 = .ok (.ireturn, 1) := by decide +kernel
theorem dL_judge_0 : decode cL_judge 0 = .ok (.aload_n 3, 1) := by decide +kernel
theorem dL_judge_1 : decode cL_judge 1 = .ok (.iconst 0, 1) := by decide +kernel
theorem dL_judge_2 : decode cL_judge 2 = .ok (.aload_n 0, 1) := by decide +kernel
theorem dL_judge_3 : decode cL_judge 3 = .ok (.iload_n 1, 1) := by decide +kernel
theorem dL_judge_4 : decode cL_judge 4 = .ok (.iload_n 2, 1) := by decide +kernel
theorem dL_judge_5 : decode cL_judge 5 = .ok (.invokevirtual 40, 3) := by decide +kernel
theorem dL_judge_8 : decode cL_judge 8 = .ok (.i2l, 1) := by decide +kernel
theorem dL_judge_9 : decode cL_judge 9 = .ok (.lastore, 1) := by decide +kernel
theorem dL_judge_10 : decode cL_judge 10 = .ok (.goto 11, 3) := by decide +kernel
theorem dL_judge_13 : decode cL_judge 13 = .ok (.astore 4, 2) := by decide +kernel
theorem dL_judge_15 : decode cL_judge 15 = .ok (.iconst 1, 1) := by decide +kernel
theorem dL_judge_16 : decode cL_judge 16 = .ok (.ireturn, 1) := by decide +kernel
theorem dL_judge_17 : decode cL_judge 17 = .ok (.astore 4, 2) := by decide +kernel
theorem dL_judge_19 : decode cL_judge 19 = .ok (.iconst 2, 1) := by decide +kernel
theorem dL_judge_20 : decode cL_judge 20 = .ok (.ireturn, 1) := by decide +kernel
theorem dL_judge_21 : decode cL_judge 21 = .ok (.iconst 0, 1) := by decide +kernel
theorem dL_judge_22 : decode cL_judge 22 = .ok (.ireturn, 1) := by decide +kernel
theorem dL_closeMonth_0 : decode cL_closeMonth 0 = .ok (.aload_n 1, 1) := by decide +kernel
theorem dL_closeMonth_1 : decode cL_closeMonth 1 = .ok (.iconst 0, 1) := by decide +kernel
theorem dL_closeMonth_2 : decode cL_closeMonth 2 = .ok (.aload_n 0, 1) := by decide +kernel
theorem dL_closeMonth_3 : decode cL_closeMonth 3 = .ok (.invokevirtual 43, 3) := by decide +kernel
theorem dL_closeMonth_6 : decode cL_closeMonth 6 = .ok (.i2l, 1) := by decide +kernel
theorem dL_closeMonth_7 : decode cL_closeMonth 7 = .ok (.lastore, 1) := by decide +kernel
theorem dL_closeMonth_8 : decode cL_closeMonth 8 = .ok (.goto 6, 3) := by decide +kernel
theorem dL_closeMonth_11 : decode cL_closeMonth 11 = .ok (.astore_n 2, 1) := by decide +kernel
theorem dL_closeMonth_12 : decode cL_closeMonth 12 = .ok (.iconst 1, 1) := by decide +kernel
theorem dL_closeMonth_13 : decode cL_closeMonth 13 = .ok (.ireturn, 1) := by decide +kernel
theorem dL_closeMonth_14 : decode cL_closeMonth 14 = .ok (.iconst 0, 1) := by decide +kernel
theorem dL_closeMonth_15 : decode cL_closeMonth 15 = .ok (.ireturn, 1) := by decide +kernel
theorem dL_append_0 : decode cL_append 0 = .ok (.aload_n 2, 1) := by decide +kernel
theorem dL_append_1 : decode cL_append 1 = .ok (.iconst 0, 1) := by decide +kernel
theorem dL_append_2 : decode cL_append 2 = .ok (.aload_n 0, 1) := by decide +kernel
theorem dL_append_3 : decode cL_append 3 = .ok (.iload_n 1, 1) := by decide +kernel
theorem dL_append_4 : decode cL_append 4 = .ok (.invokevirtual 47, 3) := by decide +kernel
theorem dL_append_7 : decode cL_append 7 = .ok (.i2l, 1) := by decide +kernel
theorem dL_append_8 : decode cL_append 8 = .ok (.lastore, 1) := by decide +kernel
theorem dL_append_9 : decode cL_append 9 = .ok (.goto 9, 3) := by decide +kernel
theorem dL_append_12 : decode cL_append 12 = .ok (.astore_n 3, 1) := by decide +kernel
theorem dL_append_13 : decode cL_append 13 = .ok (.iconst 1, 1) := by decide +kernel
theorem dL_append_14 : decode cL_append 14 = .ok (.ireturn, 1) := by decide +kernel
theorem dL_append_15 : decode cL_append 15 = .ok (.astore_n 3, 1) := by decide +kernel
theorem dL_append_16 : decode cL_append 16 = .ok (.iconst 2, 1) := by decide +kernel
theorem dL_append_17 : decode cL_append 17 = .ok (.ireturn, 1) := by decide +kernel
theorem dL_append_18 : decode cL_append 18 = .ok (.iconst 0, 1) := by decide +kernel
theorem dL_append_19 : decode cL_append 19 = .ok (.ireturn, 1) := by decide +kernel
theorem dL_complainAll_0 : decode cL_complainAll 0 = .ok (.aload_n 1, 1) := by decide +kernel
theorem dL_complainAll_1 : decode cL_complainAll 1 = .ok (.iconst 0, 1) := by decide +kernel
theorem dL_complainAll_2 : decode cL_complainAll 2 = .ok (.aload_n 0, 1) := by decide +kernel
theorem dL_complainAll_3 : decode cL_complainAll 3 = .ok (.invokevirtual 50, 3) := by decide +kernel
theorem dL_complainAll_6 : decode cL_complainAll 6 = .ok (.i2l, 1) := by decide +kernel
theorem dL_complainAll_7 : decode cL_complainAll 7 = .ok (.lastore, 1) := by decide +kernel
theorem dL_complainAll_8 : decode cL_complainAll 8 = .ok (.goto 9, 3) := by decide +kernel
theorem dL_complainAll_11 : decode cL_complainAll 11 = .ok (.astore_n 2, 1) := by decide +kernel
theorem dL_complainAll_12 : decode cL_complainAll 12 = .ok (.iconst 1, 1) := by decide +kernel
theorem dL_complainAll_13 : decode cL_complainAll 13 = .ok (.ireturn, 1) := by decide +kernel
theorem dL_complainAll_14 : decode cL_complainAll 14 = .ok (.astore_n 2, 1) := by decide +kernel
theorem dL_complainAll_15 : decode cL_complainAll 15 = .ok (.iconst 2, 1) := by decide +kernel
theorem dL_complainAll_16 : decode cL_complainAll 16 = .ok (.ireturn, 1) := by decide +kernel
theorem dL_complainAll_17 : decode cL_complainAll 17 = .ok (.iconst 0, 1) := by decide +kernel
theorem dL_complainAll_18 : decode cL_complainAll 18 = .ok (.ireturn, 1) := by decide +kernel
theorem dL_undo_0 : decode cL_undo 0 = .ok (.aload_n 1, 1) := by decide +kernel
theorem dL_undo_1 : decode cL_undo 1 = .ok (.iconst 0, 1) := by decide +kernel
theorem dL_undo_2 : decode cL_undo 2 = .ok (.aload_n 0, 1) := by decide +kernel
theorem dL_undo_3 : decode cL_undo 3 = .ok (.invokevirtual 53, 3) := by decide +kernel
theorem dL_undo_6 : decode cL_undo 6 = .ok (.i2l, 1) := by decide +kernel
theorem dL_undo_7 : decode cL_undo 7 = .ok (.lastore, 1) := by decide +kernel
theorem dL_undo_8 : decode cL_undo 8 = .ok (.goto 6, 3) := by decide +kernel
theorem dL_undo_11 : decode cL_undo 11 = .ok (.astore_n 2, 1) := by decide +kernel
theorem dL_undo_12 : decode cL_undo 12 = .ok (.iconst 1, 1) := by decide +kernel
theorem dL_undo_13 : decode cL_undo 13 = .ok (.ireturn, 1) := by decide +kernel
theorem dL_undo_14 : decode cL_undo 14 = .ok (.iconst 0, 1) := by decide +kernel
theorem dL_undo_15 : decode cL_undo 15 = .ok (.ireturn, 1) := by decide +kernel
theorem dL_complaint_0 : decode cL_complaint 0 = .ok (.aload_n 3, 1) := by decide +kernel
theorem dL_complaint_1 : decode cL_complaint 1 = .ok (.iconst 0, 1) := by decide +kernel
theorem dL_complaint_2 : decode cL_complaint 2 = .ok (.aload_n 0, 1) := by decide +kernel
theorem dL_complaint_3 : decode cL_complaint 3 = .ok (.iload_n 1, 1) := by decide +kernel
theorem dL_complaint_4 : decode cL_complaint 4 = .ok (.iload_n 2, 1) := by decide +kernel
theorem dL_complaint_5 : decode cL_complaint 5 = .ok (.invokevirtual 56, 3) := by decide +kernel
theorem dL_complaint_8 : decode cL_complaint 8 = .ok (.i2l, 1) := by decide +kernel
theorem dL_complaint_9 : decode cL_complaint 9 = .ok (.lastore, 1) := by decide +kernel
theorem dL_complaint_10 : decode cL_complaint 10 = .ok (.goto 11, 3) := by decide +kernel
theorem dL_complaint_13 : decode cL_complaint 13 = .ok (.astore 4, 2) := by decide +kernel
theorem dL_complaint_15 : decode cL_complaint 15 = .ok (.iconst 1, 1) := by decide +kernel
theorem dL_complaint_16 : decode cL_complaint 16 = .ok (.ireturn, 1) := by decide +kernel
theorem dL_complaint_17 : decode cL_complaint 17 = .ok (.astore 4, 2) := by decide +kernel
theorem dL_complaint_19 : decode cL_complaint 19 = .ok (.iconst 2, 1) := by decide +kernel
theorem dL_complaint_20 : decode cL_complaint 20 = .ok (.ireturn, 1) := by decide +kernel
theorem dL_complaint_21 : decode cL_complaint 21 = .ok (.iconst 0, 1) := by decide +kernel
theorem dL_complaint_22 : decode cL_complaint 22 = .ok (.ireturn, 1) := by decide +kernel
theorem dL_amends_0 : decode cL_amends 0 = .ok (.aload 4, 2) := by decide +kernel
theorem dL_amends_2 : decode cL_amends 2 = .ok (.iconst 0, 1) := by decide +kernel
theorem dL_amends_3 : decode cL_amends 3 = .ok (.aload_n 0, 1) := by decide +kernel
theorem dL_amends_4 : decode cL_amends 4 = .ok (.iload_n 1, 1) := by decide +kernel
theorem dL_amends_5 : decode cL_amends 5 = .ok (.iload_n 2, 1) := by decide +kernel
theorem dL_amends_6 : decode cL_amends 6 = .ok (.iload_n 3, 1) := by decide +kernel
theorem dL_amends_7 : decode cL_amends 7 = .ok (.invokevirtual 59, 3) := by decide +kernel
theorem dL_amends_10 : decode cL_amends 10 = .ok (.i2l, 1) := by decide +kernel
theorem dL_amends_11 : decode cL_amends 11 = .ok (.lastore, 1) := by decide +kernel
theorem dL_amends_12 : decode cL_amends 12 = .ok (.goto 11, 3) := by decide +kernel
theorem dL_amends_15 : decode cL_amends 15 = .ok (.astore 5, 2) := by decide +kernel
theorem dL_amends_17 : decode cL_amends 17 = .ok (.iconst 1, 1) := by decide +kernel
theorem dL_amends_18 : decode cL_amends 18 = .ok (.ireturn, 1) := by decide +kernel
theorem dL_amends_19 : decode cL_amends 19 = .ok (.astore 5, 2) := by decide +kernel
theorem dL_amends_21 : decode cL_amends 21 = .ok (.iconst 2, 1) := by decide +kernel
theorem dL_amends_22 : decode cL_amends 22 = .ok (.ireturn, 1) := by decide +kernel
theorem dL_amends_23 : decode cL_amends 23 = .ok (.iconst 0, 1) := by decide +kernel
theorem dL_amends_24 : decode cL_amends 24 = .ok (.ireturn, 1) := by decide +kernel
theorem dL_precedent_0 : decode cL_precedent 0 = .ok (.aload 4, 2) := by decide +kernel
theorem dL_precedent_2 : decode cL_precedent 2 = .ok (.iconst 0, 1) := by decide +kernel
theorem dL_precedent_3 : decode cL_precedent 3 = .ok (.aload_n 0, 1) := by decide +kernel
theorem dL_precedent_4 : decode cL_precedent 4 = .ok (.iload_n 1, 1) := by decide +kernel
theorem dL_precedent_5 : decode cL_precedent 5 = .ok (.iload_n 2, 1) := by decide +kernel
theorem dL_precedent_6 : decode cL_precedent 6 = .ok (.iload_n 3, 1) := by decide +kernel
theorem dL_precedent_7 : decode cL_precedent 7 = .ok (.invokevirtual 62, 3) := by decide +kernel
theorem dL_precedent_10 : decode cL_precedent 10 = .ok (.i2l, 1) := by decide +kernel
theorem dL_precedent_11 : decode cL_precedent 11 = .ok (.lastore, 1) := by decide +kernel
theorem dL_precedent_12 : decode cL_precedent 12 = .ok (.goto 11, 3) := by decide +kernel
theorem dL_precedent_15 : decode cL_precedent 15 = .ok (.astore 5, 2) := by decide +kernel
theorem dL_precedent_17 : decode cL_precedent 17 = .ok (.iconst 1, 1) := by decide +kernel
theorem dL_precedent_18 : decode cL_precedent 18 = .ok (.ireturn, 1) := by decide +kernel
theorem dL_precedent_19 : decode cL_precedent 19 = .ok (.astore 5, 2) := by decide +kernel
theorem dL_precedent_21 : decode cL_precedent 21 = .ok (.iconst 2, 1) := by decide +kernel
theorem dL_precedent_22 : decode cL_precedent 22 = .ok (.ireturn, 1) := by decide +kernel
theorem dL_precedent_23 : decode cL_precedent 23 = .ok (.iconst 0, 1) := by decide +kernel
theorem dL_precedent_24 : decode cL_precedent 24 = .ok (.ireturn, 1) := by decide +kernel
theorem dL_kind_0 : decode cL_kind 0 = .ok (.aload_n 3, 1) := by decide +kernel
theorem dL_kind_1 : decode cL_kind 1 = .ok (.iconst 0, 1) := by decide +kernel
theorem dL_kind_2 : decode cL_kind 2 = .ok (.aload_n 0, 1) := by decide +kernel
theorem dL_kind_3 : decode cL_kind 3 = .ok (.iload_n 1, 1) := by decide +kernel
theorem dL_kind_4 : decode cL_kind 4 = .ok (.iload_n 2, 1) := by decide +kernel
theorem dL_kind_5 : decode cL_kind 5 = .ok (.invokevirtual 65, 3) := by decide +kernel
theorem dL_kind_8 : decode cL_kind 8 = .ok (.i2l, 1) := by decide +kernel
theorem dL_kind_9 : decode cL_kind 9 = .ok (.lastore, 1) := by decide +kernel
theorem dL_kind_10 : decode cL_kind 10 = .ok (.goto 11, 3) := by decide +kernel
theorem dL_kind_13 : decode cL_kind 13 = .ok (.astore 4, 2) := by decide +kernel
theorem dL_kind_15 : decode cL_kind 15 = .ok (.iconst 1, 1) := by decide +kernel
theorem dL_kind_16 : decode cL_kind 16 = .ok (.ireturn, 1) := by decide +kernel
theorem dL_kind_17 : decode cL_kind 17 = .ok (.astore 4, 2) := by decide +kernel
theorem dL_kind_19 : decode cL_kind 19 = .ok (.iconst 2, 1) := by decide +kernel
theorem dL_kind_20 : decode cL_kind 20 = .ok (.ireturn, 1) := by decide +kernel
theorem dL_kind_21 : decode cL_kind 21 = .ok (.iconst 0, 1) := by decide +kernel
theorem dL_kind_22 : decode cL_kind 22 = .ok (.ireturn, 1) := by decide +kernel
theorem dL_count_0 : decode cL_count 0 = .ok (.aload_n 2, 1) := by decide +kernel
theorem dL_count_1 : decode cL_count 1 = .ok (.iconst 0, 1) := by decide +kernel
theorem dL_count_2 : decode cL_count 2 = .ok (.aload_n 0, 1) := by decide +kernel
theorem dL_count_3 : decode cL_count 3 = .ok (.iload_n 1, 1) := by decide +kernel
theorem dL_count_4 : decode cL_count 4 = .ok (.invokevirtual 68, 3) := by decide +kernel
theorem dL_count_7 : decode cL_count 7 = .ok (.i2l, 1) := by decide +kernel
theorem dL_count_8 : decode cL_count 8 = .ok (.lastore, 1) := by decide +kernel
theorem dL_count_9 : decode cL_count 9 = .ok (.goto 6, 3) := by decide +kernel
theorem dL_count_12 : decode cL_count 12 = .ok (.astore_n 3, 1) := by decide +kernel
theorem dL_count_13 : decode cL_count 13 = .ok (.iconst 1, 1) := by decide +kernel
theorem dL_count_14 : decode cL_count 14 = .ok (.ireturn, 1) := by decide +kernel
theorem dL_count_15 : decode cL_count 15 = .ok (.iconst 0, 1) := by decide +kernel
theorem dL_count_16 : decode cL_count 16 = .ok (.ireturn, 1) := by decide +kernel
theorem dL_setting_0 : decode cL_setting 0 = .ok (.aload_n 2, 1) := by decide +kernel
theorem dL_setting_1 : decode cL_setting 1 = .ok (.iconst 0, 1) := by decide +kernel
theorem dL_setting_2 : decode cL_setting 2 = .ok (.aload_n 0, 1) := by decide +kernel
theorem dL_setting_3 : decode cL_setting 3 = .ok (.iload_n 1, 1) := by decide +kernel
theorem dL_setting_4 : decode cL_setting 4 = .ok (.invokevirtual 71, 3) := by decide +kernel
theorem dL_setting_7 : decode cL_setting 7 = .ok (.i2l, 1) := by decide +kernel
theorem dL_setting_8 : decode cL_setting 8 = .ok (.lastore, 1) := by decide +kernel
theorem dL_setting_9 : decode cL_setting 9 = .ok (.goto 6, 3) := by decide +kernel
theorem dL_setting_12 : decode cL_setting 12 = .ok (.astore_n 3, 1) := by decide +kernel
theorem dL_setting_13 : decode cL_setting 13 = .ok (.iconst 1, 1) := by decide +kernel
theorem dL_setting_14 : decode cL_setting 14 = .ok (.ireturn, 1) := by decide +kernel
theorem dL_setting_15 : decode cL_setting 15 = .ok (.iconst 0, 1) := by decide +kernel
theorem dL_setting_16 : decode cL_setting 16 = .ok (.ireturn, 1) := by decide +kernel
theorem dL_ofCustomer_0 : decode cL_ofCustomer 0 = .ok (.aload_n 3, 1) := by decide +kernel
theorem dL_ofCustomer_1 : decode cL_ofCustomer 1 = .ok (.iconst 0, 1) := by decide +kernel
theorem dL_ofCustomer_2 : decode cL_ofCustomer 2 = .ok (.aload_n 0, 1) := by decide +kernel
theorem dL_ofCustomer_3 : decode cL_ofCustomer 3 = .ok (.iload_n 1, 1) := by decide +kernel
theorem dL_ofCustomer_4 : decode cL_ofCustomer 4 = .ok (.iload_n 2, 1) := by decide +kernel
theorem dL_ofCustomer_5 : decode cL_ofCustomer 5 = .ok (.invokevirtual 74, 3) := by decide +kernel
theorem dL_ofCustomer_8 : decode cL_ofCustomer 8 = .ok (.i2l, 1) := by decide +kernel
theorem dL_ofCustomer_9 : decode cL_ofCustomer 9 = .ok (.lastore, 1) := by decide +kernel
theorem dL_ofCustomer_10 : decode cL_ofCustomer 10 = .ok (.goto 11, 3) := by decide +kernel
theorem dL_ofCustomer_13 : decode cL_ofCustomer 13 = .ok (.astore 4, 2) := by decide +kernel
theorem dL_ofCustomer_15 : decode cL_ofCustomer 15 = .ok (.iconst 1, 1) := by decide +kernel
theorem dL_ofCustomer_16 : decode cL_ofCustomer 16 = .ok (.ireturn, 1) := by decide +kernel
theorem dL_ofCustomer_17 : decode cL_ofCustomer 17 = .ok (.astore 4, 2) := by decide +kernel
theorem dL_ofCustomer_19 : decode cL_ofCustomer 19 = .ok (.iconst 2, 1) := by decide +kernel
theorem dL_ofCustomer_20 : decode cL_ofCustomer 20 = .ok (.ireturn, 1) := by decide +kernel
theorem dL_ofCustomer_21 : decode cL_ofCustomer 21 = .ok (.iconst 0, 1) := by decide +kernel
theorem dL_ofCustomer_22 : decode cL_ofCustomer 22 = .ok (.ireturn, 1) := by decide +kernel
theorem dL_whyNot_0 : decode cL_whyNot 0 = .ok (.aload 4, 2) := by decide +kernel
theorem dL_whyNot_2 : decode cL_whyNot 2 = .ok (.iconst 0, 1) := by decide +kernel
theorem dL_whyNot_3 : decode cL_whyNot 3 = .ok (.aload_n 0, 1) := by decide +kernel
theorem dL_whyNot_4 : decode cL_whyNot 4 = .ok (.iload_n 1, 1) := by decide +kernel
theorem dL_whyNot_5 : decode cL_whyNot 5 = .ok (.iload_n 2, 1) := by decide +kernel
theorem dL_whyNot_6 : decode cL_whyNot 6 = .ok (.iload_n 3, 1) := by decide +kernel
theorem dL_whyNot_7 : decode cL_whyNot 7 = .ok (.invokevirtual 77, 3) := by decide +kernel
theorem dL_whyNot_10 : decode cL_whyNot 10 = .ok (.i2l, 1) := by decide +kernel
theorem dL_whyNot_11 : decode cL_whyNot 11 = .ok (.lastore, 1) := by decide +kernel
theorem dL_whyNot_12 : decode cL_whyNot 12 = .ok (.goto 11, 3) := by decide +kernel
theorem dL_whyNot_15 : decode cL_whyNot 15 = .ok (.astore 5, 2) := by decide +kernel
theorem dL_whyNot_17 : decode cL_whyNot 17 = .ok (.iconst 1, 1) := by decide +kernel
theorem dL_whyNot_18 : decode cL_whyNot 18 = .ok (.ireturn, 1) := by decide +kernel
theorem dL_whyNot_19 : decode cL_whyNot 19 = .ok (.astore 5, 2) := by decide +kernel
theorem dL_whyNot_21 : decode cL_whyNot 21 = .ok (.iconst 2, 1) := by decide +kernel
theorem dL_whyNot_22 : decode cL_whyNot 22 = .ok (.ireturn, 1) := by decide +kernel
theorem dL_whyNot_23 : decode cL_whyNot 23 = .ok (.iconst 0, 1) := by decide +kernel
theorem dL_whyNot_24 : decode cL_whyNot 24 = .ok (.ireturn, 1) := by decide +kernel
theorem dL_fair_0 : decode cL_fair 0 = .ok (.aload_n 2, 1) := by decide +kernel
theorem dL_fair_1 : decode cL_fair 1 = .ok (.iconst 0, 1) := by decide +kernel
theorem dL_fair_2 : decode cL_fair 2 = .ok (.aload_n 0, 1) := by decide +kernel
theorem dL_fair_3 : decode cL_fair 3 = .ok (.iload_n 1, 1) := by decide +kernel
theorem dL_fair_4 : decode cL_fair 4 = .ok (.invokevirtual 80, 3) := by decide +kernel
theorem dL_fair_7 : decode cL_fair 7 = .ok (.i2l, 1) := by decide +kernel
theorem dL_fair_8 : decode cL_fair 8 = .ok (.lastore, 1) := by decide +kernel
theorem dL_fair_9 : decode cL_fair 9 = .ok (.goto 6, 3) := by decide +kernel
theorem dL_fair_12 : decode cL_fair 12 = .ok (.astore_n 3, 1) := by decide +kernel
theorem dL_fair_13 : decode cL_fair 13 = .ok (.iconst 1, 1) := by decide +kernel
theorem dL_fair_14 : decode cL_fair 14 = .ok (.ireturn, 1) := by decide +kernel
theorem dL_fair_15 : decode cL_fair 15 = .ok (.iconst 0, 1) := by decide +kernel
theorem dL_fair_16 : decode cL_fair 16 = .ok (.ireturn, 1) := by decide +kernel
theorem dL_ifJudged_0 : decode cL_ifJudged 0 = .ok (.aload 4, 2) := by decide +kernel
theorem dL_ifJudged_2 : decode cL_ifJudged 2 = .ok (.iconst 0, 1) := by decide +kernel
theorem dL_ifJudged_3 : decode cL_ifJudged 3 = .ok (.aload_n 0, 1) := by decide +kernel
theorem dL_ifJudged_4 : decode cL_ifJudged 4 = .ok (.iload_n 1, 1) := by decide +kernel
theorem dL_ifJudged_5 : decode cL_ifJudged 5 = .ok (.iload_n 2, 1) := by decide +kernel
theorem dL_ifJudged_6 : decode cL_ifJudged 6 = .ok (.iload_n 3, 1) := by decide +kernel
theorem dL_ifJudged_7 : decode cL_ifJudged 7 = .ok (.invokevirtual 83, 3) := by decide +kernel
theorem dL_ifJudged_10 : decode cL_ifJudged 10 = .ok (.i2l, 1) := by decide +kernel
theorem dL_ifJudged_11 : decode cL_ifJudged 11 = .ok (.lastore, 1) := by decide +kernel
theorem dL_ifJudged_12 : decode cL_ifJudged 12 = .ok (.goto 11, 3) := by decide +kernel
theorem dL_ifJudged_15 : decode cL_ifJudged 15 = .ok (.astore 5, 2) := by decide +kernel
theorem dL_ifJudged_17 : decode cL_ifJudged 17 = .ok (.iconst 1, 1) := by decide +kernel
theorem dL_ifJudged_18 : decode cL_ifJudged 18 = .ok (.ireturn, 1) := by decide +kernel
theorem dL_ifJudged_19 : decode cL_ifJudged 19 = .ok (.astore 5, 2) := by decide +kernel
theorem dL_ifJudged_21 : decode cL_ifJudged 21 = .ok (.iconst 2, 1) := by decide +kernel
theorem dL_ifJudged_22 : decode cL_ifJudged 22 = .ok (.ireturn, 1) := by decide +kernel
theorem dL_ifJudged_23 : decode cL_ifJudged 23 = .ok (.iconst 0, 1) := by decide +kernel
theorem dL_ifJudged_24 : decode cL_ifJudged 24 = .ok (.ireturn, 1) := by decide +kernel
abbrev wsW (y : MethodName) (b : ByteArray) (n : Nat) (hh : List (Nat × Nat × Nat × Nat)) : List Cond := .codeWith y b n (some .int) hh :: BG
theorem wsW_good {y : MethodName} {b : ByteArray} {n : Nat} {hh : List (Nat × Nat × Nat × Nat)} (h : Cond.codeWith y b n (some .int) hh ∈ BG) : GoodIn BG (wsW y b n hh) := by
  intro w hw
  rcases List.mem_cons.mp hw with rfl | hw
  · exact bg_good _ h
  · exact bg_good w hw
def MW (l : Launch) (E : TE) (y : MethodName) (b : ByteArray) (n : Nat) (hh : List (Nat × Nat × Nat × Nat)) (d : Nat) (As : List Value) (W0 W1 : Heap → Prop) (r : Option Value) : Prop :=
  Met l y (wsW y b n hh) (rmT d) (va_Pc As (fun U => Ks E U ∧ W0 U.heap)) (QG E W1 r) 1 6 (Ah E)
def EW (E : TE) (below : List Frame) (args : Array Value) (s : State) (W1 : Heap → Prop) (r : Option Value) : State → Prop := MQ below (QG E W1 r) args s 1 6 (Ah E)
theorem w_in {l : Launch} {E : TE} {y : MethodName} {b : ByteArray} {n : Nat} {hh : List (Nat × Nat × Nat × Nat)} {d : Nat} {As : List Value} {W0 W1 : Heap → Prop} {r : Option Value} (hy : plainName y.cls = true) (hA : (lg_sl As).length ≤ n)
    (body : ∀ (p : Program) (e : Env) (s : State) (mi : MethodId) (args : Array Value) (below : List Frame) (meth : Method) (c : Code) (H : Heap) (ls : Array Slot), p.tables.exec = Jvm.exec → c.code = b → meth.sig.returnType = some .int → meth.locks = false → c.exceptionTable.toList = tableOf hh → c.maxLocals = n → s.vm.findClass y.cls = some mi.cls → (∀ w ∈ BG, w.before args s = true) → Ks E s → W0 H → va_S (Ah E) s.heap H [] → lv_has ls n (lv_args 0 As) →
      W p l e (rmT d) s mi args below meth c H [] 0 0 (EW E below args s W1 r) (F0 mi 0 ls [])) : MW l E y b n hh d As W0 W1 r := by
  refine va_MetW (cc := b) (maxL := n) (ret := some .int) (hh := hh) (ws' := BG) hy rfl ?_
  intro p e s mi args below meth c s₁ B hml hP
  obtain ⟨rfl, hK, hW⟩ := hP
  have htab := vx_table (x := y) B (atoms_spec (ws := wsW y b n hh) B.pre _ List.mem_cons_self)
  have hl := lv_entry As (n := n) hA
  rw [lg_entry_eq]
  exact body p e s mi _ below meth c s.heap _ B.exec B.bytes B.returns B.notSynchronized htab hml (findClass_of_methodNamed B.named) (fun w hw => atoms_spec (ws := wsW y b n hh) B.pre w (List.mem_cons_of_mem _ hw)) hK hW va_S.rf hl
theorem arrV_congr {cI : ClassId} {N : Nat} {f g : Nat → Value} (h : ∀ j, j < N → f j = g j) : arrV cI N f = arrV cI N g := by
  unfold arrV
  have : (fun j : Fin N => f j.val) = (fun j : Fin N => g j.val) := by funext j; exact h j.val j.isLt
  rw [this]
section WK
variable {p : Program} {l : Launch} {e : Env} {R : Room} {s : State} {mi : MethodId} {args : Array Value} {below : List Frame} {meth : Method} {c : Code} {H : Heap} {locs : List Loc} {cells slots : Nat} {Q : State → Prop}
variable {cc : ByteArray} {pc : Nat} {ls : Array Slot} {rest : List Value} {E : TE} {x m : XS} {g o : Int64} {W0 W1 : Heap → Prop} {nm : String}
theorem r_last (hx : p.tables.exec = Jvm.exec) (hb : c.code = cc) (hK : Ks E s) (hW : Wd E x m g o H) (hS : va_S (Ah E) s.heap H locs) {v : Int64} (hdg : decode cc pc = .ok (.lastore, 1))
    (kk : ∀ (H1 : Heap) (locs1 : List Loc), Wd E x m g v H1 → va_S (Ah E) s.heap H1 locs1 → W p l e R s mi args below meth c H1 locs1 cells slots Q (F0 mi (pc + 1) ls rest)) : W p l e R s mi args below meth c H locs cells slots Q (F0 mi pc ls (.long v :: .int 0 :: .ref (eh E + 217) :: rest)) := by
  have hP := hW.at (k := 217) (by decide) cO
  have ht : (tyE E)[2]? = some (eL E, FieldType.long) := rfl
  have hin : vp_in (0 : Int32) 1 := by unfold vp_in; decide
  refine W.last hx hb (hP 0 _ rfl) ((hK.1.2 2 _ ht).1 1 (fun _ => .long o)) (fun q => by cases q) (by show ¬ ((0 : Int32) < 0 ∨ (arrV _ _ _).slots.size ≤ _); rw [arrV_size]; exact hin) rfl rfl hdg fun H1 e z oq => ?_
  refine kk H1 _ (hW.upd (k := 217) (by decide) cO ?_ z oq (fun q h1 h2 => cellV_o q h1 h2)) (hS.put z oq (Nat.le_add_right _ _))
  show H1[eh E + 217]? = some (vp_cell _ _)
  rw [e, vp_cell_l, vp_cell_l, arrV_store]
  congr 1
theorem r_lald (hx : p.tables.exec = Jvm.exec) (hb : c.code = cc) (hK : Ks E s) (hW : Wd E x m g o H) (hdg : decode cc pc = .ok (.laload, 1))
    (kk : W p l e R s mi args below meth c H locs cells slots Q (F0 mi (pc + 1) ls (.long o :: rest))) : W p l e R s mi args below meth c H locs cells slots Q (F0 mi pc ls (.int 0 :: .ref (eh E + 217) :: rest)) :=
  va_lald (D := eD E) (cl := vwCl) (tys := tyE E) (ws := [(eh E + 217, .inl (eL E, 1, .inr (.inl (fun _ => o))))]) (f := fun _ => o) hx hb hK.1 (hW.at (k := 217) (by decide) cO) 0 2 rfl rfl (by unfold vp_in; decide) hdg kk
theorem e_iw {v : Int32} {k n : Nat} (hk : k ≤ 1) (hn : n ≤ 6) (hx : p.tables.exec = Jvm.exec) (hb : c.code = cc) (hr : meth.sig.returnType = some .int) (hlocks : meth.locks = false) (hW : W1 H) (hS : va_S (Ah E) s.heap H locs) (hdg : decode cc pc = .ok (.ireturn, 1)) : W p l e R s mi args below meth c H locs k n (EW E below args s W1 (some (.int v))) (F0 mi pc ls [.int v]) := by
  refine W.widen hk hn ?_
  exact W.iret hx hb hr (fun t ht hW9 => ⟨rfl, by rw [ht]; exact hW, hS.F ht⟩) hS.2.2 hdg hlocks
theorem c_VT {y : MethodName} {b : ByteArray} {n nL d k a hpc : Nat} {ret : Option FieldType} {As st0 : List Value} {own C : String} {index : Nat} (hM : MT l E y b n ret d (.ref a :: As) W0 nm) (cw : CallW R s args own C index y b n ret (wsM y b n ret) (rmT d) 1 6 k) (hrec : ∃ cell : Cell, H[a]? = some cell ∧ cell.vm.isStatics = false ∧ s.vm.findClass C = some cell.cls) (hx : p.tables.exec = Jvm.exec) (hb : c.code = cc) (hml : c.maxLocals = nL) (hown : s.vm.findClass own = some mi.cls) (hB : ∀ w ∈ BG, w.before args s = true) (hK : Ks E s) (hW : W0 H) (hS : va_S (Ah E) s.heap H locs) (hc : 1 ≤ R.cells ∧ 6 ≤ R.slots) (hn : As.length = k) (hsize : ls.size = nL) (hst : st0 = As.reverse ++ .ref a :: rest) (hroom : (rest.map fun v => v.category).sum ≤ 8) (hdg : decode cc pc = .ok (.invokevirtual index, 3))
    (pre : List ExceptionTableEntry) (xe : ExceptionTableEntry) (suf : List ExceptionTableEntry) (hsplit : c.exceptionTable.toList = pre ++ xe :: suf) (hpass : ∀ z ∈ pre, z.catchType ≠ 0 ∧ ∃ nm2 : String, Cond.classLink own z.catchType nm2 ∈ BG ∧ (nm, nm2) ∈ NCL) (hcov : covers xe pc = true) (h0 : xe.catchType ≠ 0) (hlk2 : Cond.classLink own xe.catchType nm ∈ BG) (hcast : Cond.castable nm nm ∈ NW) (hh : xe.handlerPc = hpc)
    (kk : ∀ (H1 : Heap) (locs1 : List Loc) (q : Nat), W0 H1 → va_S (Ah E) s.heap H1 locs1 → W p l e R s mi args below meth c H1 locs1 1 6 Q (F0 mi hpc ls [.ref q])) :
    W p l e R s mi args below meth c H locs 0 0 Q (F0 mi pc ls st0) := by
  have hr := vx_runV (Ts := BG) (g := F0 mi pc ls st0) (H := H) (locs := locs) (cells := 0) (slots := 0) (below := below) (meth := meth) (e := e) ⟨hx, hb, hml, hown, hB⟩ hM cw ⟨pc_blind, hrec, pc_go hK hS hW⟩ rfl hn hsize hst (lv_room hroom) hdg ⟨by omega, by omega⟩
  intro T hT X
  rcases hr T hT X with ⟨v, st₀, t, T', L, h0, X', hL, e1, e2, hq, st⟩ | ⟨q, st₀, t, T', L, F, ce, h9, X', hL, e1, e2, ⟨rfl, hw, hz, hk⟩, hce, hcv, hcl, st⟩
  · exact hq.elim
  · rw [h9] at hz hk
    have hS1 : va_S (Ah E) s.heap T'.heap (locs ++ L) := ⟨Nat.le_trans hS.1 (by rw [e1]; exact hz), fun q h1 h2 => by rw [e1, hk q (Nat.lt_of_lt_of_le h1 hS.1) h2]; exact hS.2.1 q h1 h2, fun q hq => by
      rcases List.mem_append.mp hq with h | h
      · exact hS.2.2 q h
      · exact hL q h⟩
    subst hh
    have hcatch : vx_W p l e R s mi args below meth c T'.heap (locs ++ L) (0 + 1) (0 + 6) Q (F0 mi pc ls rest) q :=
      vx_catch hown pre xe suf hsplit (fun z hz9 => Or.inr ⟨(hpass z hz9).1, by obtain ⟨nm2, a1, a2⟩ := (hpass z hz9).2; exact ⟨nm2, hB _ a1, hK.2.2.2.2 _ a2⟩⟩) hcov h0 (hB _ hlk2) (va_Nw.use rfl (hK.nw hcast)) (by rw [e1]; exact hce) hcv hcl (kk _ _ q (by rw [e1]; exact hw) hS1)
    obtain ⟨t2, a1, b1⟩ := hcatch T' rfl X'
    exact ⟨t2, st.trans a1, b1⟩
end WK
set_option maxRecDepth 100000 in
set_option maxHeartbeats 4000000 in
theorem wn_offer (l : Launch) (E : TE) (x m : XS) (g o : Int64) {a0 : Int32} {a1 : Int32} {a2 : Int32} {a3 : Int32} {r : Int32} {xr : XS} (hf : f_X4_offer x a0 a1 a2 a3 = some (r, xr)) : MW l E yL_offer cL_offer 7 [(0, 14, 17, 13), (0, 14, 21, 15), (0, 14, 25, 17)] 9 [rf E 0, .int a0, .int a1, .int a2, .int a3, rf E 217] (Wd E x m g o) (Wd E xr m g r.toInt64) (some (.int 0)) := by
  refine w_in (by decide) (Nat.le_of_ble_eq_true rfl) ?_
  intro p e s mi args below meth c H ls hx hb hr hlk htab hml hown hB hK hW hS hl
  have hl : lv_has ls 7 [(0, rf E 0), (1, .int a0), (2, .int a1), (3, .int a2), (4, .int a3), (5, rf E 217)] := hl
  refine lv_aload hx hb dL_offer_0 (lv_at hl 5 rfl) ?_
  refine lv_iconst (v := 0) hx hb dL_offer_2 (by decide) ?_
  refine lv_aload_n hx hb dL_offer_3 rfl (lv_at hl 0 rfl) ?_
  refine lv_iload_n hx hb dL_offer_4 rfl (lv_at hl 1 rfl) ?_
  refine lv_iload_n hx hb dL_offer_5 rfl (lv_at hl 2 rfl) ?_
  refine lv_iload_n hx hb dL_offer_6 rfl (lv_at hl 3 rfl) ?_
  refine lv_iload hx hb dL_offer_7 (lv_at hl 4 rfl) ?_
  refine c_V (As := [.int a0, .int a1, .int a2, .int a3]) (st1 := [.int r, .int 0, rf E 217]) (rest := [.int 0, rf E 217]) (p_X4_offer l E x m g o hf) (kw_7 hB ⟨Nat.le_of_ble_eq_true rfl, Nat.le_of_ble_eq_true rfl⟩) (Wd.rec hK hW (by decide) cX_0 (ci := 4) rfl) hx hb hml hown hB hK hW hS ⟨Nat.zero_le _, Nat.zero_le _⟩ rfl hl.1 rfl (Nat.le_of_ble_eq_true rfl) rfl dL_offer_9 (fun H locs hW hS => ?_)
  refine lv_i2l hx hb dL_offer_12 rfl ?_
  refine r_last hx hb hK hW hS dL_offer_13 (fun H locs hW hS => ?_)
  refine lv_goto (tgt := 29) hx hb dL_offer_14 (by decide) ?_
  refine lv_iconst (v := 0) hx hb dL_offer_29 (by decide) ?_
  exact e_iw (Nat.zero_le _) (Nat.zero_le _) hx hb hr hlk hW hS dL_offer_30
set_option maxRecDepth 100000 in
set_option maxHeartbeats 4000000 in
theorem wt_offer_1 (l : Launch) (hst : l.stackTraces = false) (E : TE) (x m : XS) (g o : Int64) {a0 : Int32} {a1 : Int32} {a2 : Int32} {a3 : Int32} (hf : t_X4_offer x a0 a1 a2 a3 = some 1) : MW l E yL_offer cL_offer 7 [(0, 14, 17, 13), (0, 14, 21, 15), (0, 14, 25, 17)] 9 [rf E 0, .int a0, .int a1, .int a2, .int a3, rf E 217] (Wd E x m g o) (Wd E x m g o) (some (.int 1)) := by
  refine w_in (by decide) (Nat.le_of_ble_eq_true rfl) ?_
  intro p e s mi args below meth c H ls hx hb hr hlk htab hml hown hB hK hW hS hl
  have hl : lv_has ls 7 [(0, rf E 0), (1, .int a0), (2, .int a1), (3, .int a2), (4, .int a3), (5, rf E 217)] := hl
  have hM : MT l E yX4_offer cX4_offer 5 (some .int) 7 [rf E 0, .int a0, .int a1, .int a2, .int a3] (Wd E x m g o) "java/lang/IndexOutOfBoundsException" := tp_X4_offer l hst E x m g o hf
  refine lv_aload hx hb dL_offer_0 (lv_at hl 5 rfl) ?_
  refine lv_iconst (v := 0) hx hb dL_offer_2 (by decide) ?_
  refine lv_aload_n hx hb dL_offer_3 rfl (lv_at hl 0 rfl) ?_
  refine lv_iload_n hx hb dL_offer_4 rfl (lv_at hl 1 rfl) ?_
  refine lv_iload_n hx hb dL_offer_5 rfl (lv_at hl 2 rfl) ?_
  refine lv_iload_n hx hb dL_offer_6 rfl (lv_at hl 3 rfl) ?_
  refine lv_iload hx hb dL_offer_7 (lv_at hl 4 rfl) ?_
  refine c_VT (As := [.int a0, .int a1, .int a2, .int a3]) (rest := [.int 0, rf E 217]) hM (kwT_7 hB ⟨Nat.le_of_ble_eq_true rfl, Nat.le_of_ble_eq_true rfl⟩) (Wd.rec hK hW (by decide) cX_0 (ci := 4) rfl) hx hb hml hown hB hK hW hS ⟨Nat.le_of_ble_eq_true rfl, Nat.le_of_ble_eq_true rfl⟩ rfl hl.1 rfl (Nat.le_of_ble_eq_true rfl) dL_offer_9 [] ⟨0, 14, 17, 13⟩ [⟨0, 14, 21, 15⟩, ⟨0, 14, 25, 17⟩] (htab.trans rfl) (fun z hz => nomatch hz) (by decide) (by decide) q_704 nwc_1 (hpc := 17) rfl (fun H locs q9 hW hS => ?_)
  refine lv_astore (lv' := [(6, .ref q9), (0, rf E 0), (1, .int a0), (2, .int a1), (3, .int a2), (4, .int a3), (5, rf E 217)]) hx hb dL_offer_17 hl (by decide) rfl (fun ls hl => ?_)
  refine lv_iconst (v := 1) hx hb dL_offer_19 (by decide) ?_
  exact e_iw (Nat.le_refl _) (Nat.le_refl _) hx hb hr hlk hW hS dL_offer_20
set_option maxRecDepth 100000 in
set_option maxHeartbeats 4000000 in
theorem wt_offer_2 (l : Launch) (hst : l.stackTraces = false) (E : TE) (x m : XS) (g o : Int64) {a0 : Int32} {a1 : Int32} {a2 : Int32} {a3 : Int32} (hf : t_X4_offer x a0 a1 a2 a3 = some 2) : MW l E yL_offer cL_offer 7 [(0, 14, 17, 13), (0, 14, 21, 15), (0, 14, 25, 17)] 9 [rf E 0, .int a0, .int a1, .int a2, .int a3, rf E 217] (Wd E x m g o) (Wd E x m g o) (some (.int 2)) := by
  refine w_in (by decide) (Nat.le_of_ble_eq_true rfl) ?_
  intro p e s mi args below meth c H ls hx hb hr hlk htab hml hown hB hK hW hS hl
  have hl : lv_has ls 7 [(0, rf E 0), (1, .int a0), (2, .int a1), (3, .int a2), (4, .int a3), (5, rf E 217)] := hl
  have hM : MT l E yX4_offer cX4_offer 5 (some .int) 7 [rf E 0, .int a0, .int a1, .int a2, .int a3] (Wd E x m g o) "java/lang/IllegalArgumentException" := tp_X4_offer l hst E x m g o hf
  refine lv_aload hx hb dL_offer_0 (lv_at hl 5 rfl) ?_
  refine lv_iconst (v := 0) hx hb dL_offer_2 (by decide) ?_
  refine lv_aload_n hx hb dL_offer_3 rfl (lv_at hl 0 rfl) ?_
  refine lv_iload_n hx hb dL_offer_4 rfl (lv_at hl 1 rfl) ?_
  refine lv_iload_n hx hb dL_offer_5 rfl (lv_at hl 2 rfl) ?_
  refine lv_iload_n hx hb dL_offer_6 rfl (lv_at hl 3 rfl) ?_
  refine lv_iload hx hb dL_offer_7 (lv_at hl 4 rfl) ?_
  refine c_VT (As := [.int a0, .int a1, .int a2, .int a3]) (rest := [.int 0, rf E 217]) hM (kwT_7 hB ⟨Nat.le_of_ble_eq_true rfl, Nat.le_of_ble_eq_true rfl⟩) (Wd.rec hK hW (by decide) cX_0 (ci := 4) rfl) hx hb hml hown hB hK hW hS ⟨Nat.le_of_ble_eq_true rfl, Nat.le_of_ble_eq_true rfl⟩ rfl hl.1 rfl (Nat.le_of_ble_eq_true rfl) dL_offer_9 [⟨0, 14, 17, 13⟩] ⟨0, 14, 21, 15⟩ [⟨0, 14, 25, 17⟩] (htab.trans rfl) (by
    intro z hz
    rcases List.mem_cons.mp hz with rfl | hz
    · exact ⟨by decide, "java/lang/IndexOutOfBoundsException", q_704, by decide⟩
    exact nomatch hz) (by decide) (by decide) q_705 nwc_2 (hpc := 21) rfl (fun H locs q9 hW hS => ?_)
  refine lv_astore (lv' := [(6, .ref q9), (0, rf E 0), (1, .int a0), (2, .int a1), (3, .int a2), (4, .int a3), (5, rf E 217)]) hx hb dL_offer_21 hl (by decide) rfl (fun ls hl => ?_)
  refine lv_iconst (v := 2) hx hb dL_offer_23 (by decide) ?_
  exact e_iw (Nat.le_refl _) (Nat.le_refl _) hx hb hr hlk hW hS dL_offer_24
set_option maxRecDepth 100000 in
set_option maxHeartbeats 4000000 in
theorem wt_offer_3 (l : Launch) (hst : l.stackTraces = false) (E : TE) (x m : XS) (g o : Int64) {a0 : Int32} {a1 : Int32} {a2 : Int32} {a3 : Int32} (hf : t_X4_offer x a0 a1 a2 a3 = some 3) : MW l E yL_offer cL_offer 7 [(0, 14, 17, 13), (0, 14, 21, 15), (0, 14, 25, 17)] 9 [rf E 0, .int a0, .int a1, .int a2, .int a3, rf E 217] (Wd E x m g o) (Wd E x m g o) (some (.int 3)) := by
  refine w_in (by decide) (Nat.le_of_ble_eq_true rfl) ?_
  intro p e s mi args below meth c H ls hx hb hr hlk htab hml hown hB hK hW hS hl
  have hl : lv_has ls 7 [(0, rf E 0), (1, .int a0), (2, .int a1), (3, .int a2), (4, .int a3), (5, rf E 217)] := hl
  have hM : MT l E yX4_offer cX4_offer 5 (some .int) 7 [rf E 0, .int a0, .int a1, .int a2, .int a3] (Wd E x m g o) "java/lang/IllegalStateException" := tp_X4_offer l hst E x m g o hf
  refine lv_aload hx hb dL_offer_0 (lv_at hl 5 rfl) ?_
  refine lv_iconst (v := 0) hx hb dL_offer_2 (by decide) ?_
  refine lv_aload_n hx hb dL_offer_3 rfl (lv_at hl 0 rfl) ?_
  refine lv_iload_n hx hb dL_offer_4 rfl (lv_at hl 1 rfl) ?_
  refine lv_iload_n hx hb dL_offer_5 rfl (lv_at hl 2 rfl) ?_
  refine lv_iload_n hx hb dL_offer_6 rfl (lv_at hl 3 rfl) ?_
  refine lv_iload hx hb dL_offer_7 (lv_at hl 4 rfl) ?_
  refine c_VT (As := [.int a0, .int a1, .int a2, .int a3]) (rest := [.int 0, rf E 217]) hM (kwT_7 hB ⟨Nat.le_of_ble_eq_true rfl, Nat.le_of_ble_eq_true rfl⟩) (Wd.rec hK hW (by decide) cX_0 (ci := 4) rfl) hx hb hml hown hB hK hW hS ⟨Nat.le_of_ble_eq_true rfl, Nat.le_of_ble_eq_true rfl⟩ rfl hl.1 rfl (Nat.le_of_ble_eq_true rfl) dL_offer_9 [⟨0, 14, 17, 13⟩, ⟨0, 14, 21, 15⟩] ⟨0, 14, 25, 17⟩ [] (htab.trans rfl) (by
    intro z hz
    rcases List.mem_cons.mp hz with rfl | hz
    · exact ⟨by decide, "java/lang/IndexOutOfBoundsException", q_704, by decide⟩
    rcases List.mem_cons.mp hz with rfl | hz
    · exact ⟨by decide, "java/lang/IllegalArgumentException", q_705, by decide⟩
    exact nomatch hz) (by decide) (by decide) q_706 nwc_3 (hpc := 25) rfl (fun H locs q9 hW hS => ?_)
  refine lv_astore (lv' := [(6, .ref q9), (0, rf E 0), (1, .int a0), (2, .int a1), (3, .int a2), (4, .int a3), (5, rf E 217)]) hx hb dL_offer_25 hl (by decide) rfl (fun ls hl => ?_)
  refine lv_iconst (v := 3) hx hb dL_offer_27 (by decide) ?_
  exact e_iw (Nat.le_refl _) (Nat.le_refl _) hx hb hr hlk hW hS dL_offer_28
set_option maxRecDepth 100000 in
set_option maxHeartbeats 4000000 in
theorem wn_takeOff (l : Launch) (E : TE) (x m : XS) (g o : Int64) {a0 : Int32} {a1 : Int32} {r : Int32} {xr : XS} (hf : f_X4_takeOff x a0 a1 = some (r, xr)) : MW l E yL_takeOff cL_takeOff 5 [(0, 10, 13, 13), (0, 10, 17, 17)] 9 [rf E 0, .int a0, .int a1, rf E 217] (Wd E x m g o) (Wd E xr m g r.toInt64) (some (.int 0)) := by
  refine w_in (by decide) (Nat.le_of_ble_eq_true rfl) ?_
  intro p e s mi args below meth c H ls hx hb hr hlk htab hml hown hB hK hW hS hl
  have hl : lv_has ls 5 [(0, rf E 0), (1, .int a0), (2, .int a1), (3, rf E 217)] := hl
  refine lv_aload_n hx hb dL_takeOff_0 rfl (lv_at hl 3 rfl) ?_
  refine lv_iconst (v := 0) hx hb dL_takeOff_1 (by decide) ?_
  refine lv_aload_n hx hb dL_takeOff_2 rfl (lv_at hl 0 rfl) ?_
  refine lv_iload_n hx hb dL_takeOff_3 rfl (lv_at hl 1 rfl) ?_
  refine lv_iload_n hx hb dL_takeOff_4 rfl (lv_at hl 2 rfl) ?_
  refine c_V (As := [.int a0, .int a1]) (st1 := [.int r, .int 0, rf E 217]) (rest := [.int 0, rf E 217]) (p_X4_takeOff l E x m g o hf) (kw_19 hB ⟨Nat.le_of_ble_eq_true rfl, Nat.le_of_ble_eq_true rfl⟩) (Wd.rec hK hW (by decide) cX_0 (ci := 4) rfl) hx hb hml hown hB hK hW hS ⟨Nat.zero_le _, Nat.zero_le _⟩ rfl hl.1 rfl (Nat.le_of_ble_eq_true rfl) rfl dL_takeOff_5 (fun H locs hW hS => ?_)
  refine lv_i2l hx hb dL_takeOff_8 rfl ?_
  refine r_last hx hb hK hW hS dL_takeOff_9 (fun H locs hW hS => ?_)
  refine lv_goto (tgt := 21) hx hb dL_takeOff_10 (by decide) ?_
  refine lv_iconst (v := 0) hx hb dL_takeOff_21 (by decide) ?_
  exact e_iw (Nat.zero_le _) (Nat.zero_le _) hx hb hr hlk hW hS dL_takeOff_22
set_option maxRecDepth 100000 in
set_option maxHeartbeats 4000000 in
theorem wt_takeOff_1 (l : Launch) (hst : l.stackTraces = false) (E : TE) (x m : XS) (g o : Int64) {a0 : Int32} {a1 : Int32} (hf : t_X4_takeOff x a0 a1 = some 1) : MW l E yL_takeOff cL_takeOff 5 [(0, 10, 13, 13), (0, 10, 17, 17)] 9 [rf E 0, .int a0, .int a1, rf E 217] (Wd E x m g o) (Wd E x m g o) (some (.int 1)) := by
  refine w_in (by decide) (Nat.le_of_ble_eq_true rfl) ?_
  intro p e s mi args below meth c H ls hx hb hr hlk htab hml hown hB hK hW hS hl
  have hl : lv_has ls 5 [(0, rf E 0), (1, .int a0), (2, .int a1), (3, rf E 217)] := hl
  have hM : MT l E yX4_takeOff cX4_takeOff 3 (some .int) 7 [rf E 0, .int a0, .int a1] (Wd E x m g o) "java/lang/IndexOutOfBoundsException" := tp_X4_takeOff l hst E x m g o hf
  refine lv_aload_n hx hb dL_takeOff_0 rfl (lv_at hl 3 rfl) ?_
  refine lv_iconst (v := 0) hx hb dL_takeOff_1 (by decide) ?_
  refine lv_aload_n hx hb dL_takeOff_2 rfl (lv_at hl 0 rfl) ?_
  refine lv_iload_n hx hb dL_takeOff_3 rfl (lv_at hl 1 rfl) ?_
  refine lv_iload_n hx hb dL_takeOff_4 rfl (lv_at hl 2 rfl) ?_
  refine c_VT (As := [.int a0, .int a1]) (rest := [.int 0, rf E 217]) hM (kwT_19 hB ⟨Nat.le_of_ble_eq_true rfl, Nat.le_of_ble_eq_true rfl⟩) (Wd.rec hK hW (by decide) cX_0 (ci := 4) rfl) hx hb hml hown hB hK hW hS ⟨Nat.le_of_ble_eq_true rfl, Nat.le_of_ble_eq_true rfl⟩ rfl hl.1 rfl (Nat.le_of_ble_eq_true rfl) dL_takeOff_5 [] ⟨0, 10, 13, 13⟩ [⟨0, 10, 17, 17⟩] (htab.trans rfl) (fun z hz => nomatch hz) (by decide) (by decide) q_704 nwc_1 (hpc := 13) rfl (fun H locs q9 hW hS => ?_)
  refine lv_astore (lv' := [(4, .ref q9), (0, rf E 0), (1, .int a0), (2, .int a1), (3, rf E 217)]) hx hb dL_takeOff_13 hl (by decide) rfl (fun ls hl => ?_)
  refine lv_iconst (v := 1) hx hb dL_takeOff_15 (by decide) ?_
  exact e_iw (Nat.le_refl _) (Nat.le_refl _) hx hb hr hlk hW hS dL_takeOff_16
set_option maxRecDepth 100000 in
set_option maxHeartbeats 4000000 in
theorem wt_takeOff_3 (l : Launch) (hst : l.stackTraces = false) (E : TE) (x m : XS) (g o : Int64) {a0 : Int32} {a1 : Int32} (hf : t_X4_takeOff x a0 a1 = some 3) : MW l E yL_takeOff cL_takeOff 5 [(0, 10, 13, 13), (0, 10, 17, 17)] 9 [rf E 0, .int a0, .int a1, rf E 217] (Wd E x m g o) (Wd E x m g o) (some (.int 2)) := by
  refine w_in (by decide) (Nat.le_of_ble_eq_true rfl) ?_
  intro p e s mi args below meth c H ls hx hb hr hlk htab hml hown hB hK hW hS hl
  have hl : lv_has ls 5 [(0, rf E 0), (1, .int a0), (2, .int a1), (3, rf E 217)] := hl
  have hM : MT l E yX4_takeOff cX4_takeOff 3 (some .int) 7 [rf E 0, .int a0, .int a1] (Wd E x m g o) "java/lang/IllegalStateException" := tp_X4_takeOff l hst E x m g o hf
  refine lv_aload_n hx hb dL_takeOff_0 rfl (lv_at hl 3 rfl) ?_
  refine lv_iconst (v := 0) hx hb dL_takeOff_1 (by decide) ?_
  refine lv_aload_n hx hb dL_takeOff_2 rfl (lv_at hl 0 rfl) ?_
  refine lv_iload_n hx hb dL_takeOff_3 rfl (lv_at hl 1 rfl) ?_
  refine lv_iload_n hx hb dL_takeOff_4 rfl (lv_at hl 2 rfl) ?_
  refine c_VT (As := [.int a0, .int a1]) (rest := [.int 0, rf E 217]) hM (kwT_19 hB ⟨Nat.le_of_ble_eq_true rfl, Nat.le_of_ble_eq_true rfl⟩) (Wd.rec hK hW (by decide) cX_0 (ci := 4) rfl) hx hb hml hown hB hK hW hS ⟨Nat.le_of_ble_eq_true rfl, Nat.le_of_ble_eq_true rfl⟩ rfl hl.1 rfl (Nat.le_of_ble_eq_true rfl) dL_takeOff_5 [⟨0, 10, 13, 13⟩] ⟨0, 10, 17, 17⟩ [] (htab.trans rfl) (by
    intro z hz
    rcases List.mem_cons.mp hz with rfl | hz
    · exact ⟨by decide, "java/lang/IndexOutOfBoundsException", q_704, by decide⟩
    exact nomatch hz) (by decide) (by decide) q_706 nwc_3 (hpc := 17) rfl (fun H locs q9 hW hS => ?_)
  refine lv_astore (lv' := [(4, .ref q9), (0, rf E 0), (1, .int a0), (2, .int a1), (3, rf E 217)]) hx hb dL_takeOff_17 hl (by decide) rfl (fun ls hl => ?_)
  refine lv_iconst (v := 2) hx hb dL_takeOff_19 (by decide) ?_
  exact e_iw (Nat.le_refl _) (Nat.le_refl _) hx hb hr hlk hW hS dL_takeOff_20
set_option maxRecDepth 100000 in
set_option maxHeartbeats 4000000 in
theorem wn_base (l : Launch) (E : TE) (x m : XS) (g o : Int64) {a0 : Int32} {a1 : Int32} {r : Int32} {xr : XS} (hf : f_X4_base x a0 a1 = some (r, xr)) : MW l E yL_base cL_base 5 [(0, 10, 13, 13), (0, 10, 17, 15)] 9 [rf E 0, .int a0, .int a1, rf E 217] (Wd E x m g o) (Wd E xr m g r.toInt64) (some (.int 0)) := by
  refine w_in (by decide) (Nat.le_of_ble_eq_true rfl) ?_
  intro p e s mi args below meth c H ls hx hb hr hlk htab hml hown hB hK hW hS hl
  have hl : lv_has ls 5 [(0, rf E 0), (1, .int a0), (2, .int a1), (3, rf E 217)] := hl
  refine lv_aload_n hx hb dL_base_0 rfl (lv_at hl 3 rfl) ?_
  refine lv_iconst (v := 0) hx hb dL_base_1 (by decide) ?_
  refine lv_aload_n hx hb dL_base_2 rfl (lv_at hl 0 rfl) ?_
  refine lv_iload_n hx hb dL_base_3 rfl (lv_at hl 1 rfl) ?_
  refine lv_iload_n hx hb dL_base_4 rfl (lv_at hl 2 rfl) ?_
  refine c_V (As := [.int a0, .int a1]) (st1 := [.int r, .int 0, rf E 217]) (rest := [.int 0, rf E 217]) (p_X4_base l E x m g o hf) (kw_23 hB ⟨Nat.le_of_ble_eq_true rfl, Nat.le_of_ble_eq_true rfl⟩) (Wd.rec hK hW (by decide) cX_0 (ci := 4) rfl) hx hb hml hown hB hK hW hS ⟨Nat.zero_le _, Nat.zero_le _⟩ rfl hl.1 rfl (Nat.le_of_ble_eq_true rfl) rfl dL_base_5 (fun H locs hW hS => ?_)
  refine lv_i2l hx hb dL_base_8 rfl ?_
  refine r_last hx hb hK hW hS dL_base_9 (fun H locs hW hS => ?_)
  refine lv_goto (tgt := 21) hx hb dL_base_10 (by decide) ?_
  refine lv_iconst (v := 0) hx hb dL_base_21 (by decide) ?_
  exact e_iw (Nat.zero_le _) (Nat.zero_le _) hx hb hr hlk hW hS dL_base_22
set_option maxRecDepth 100000 in
set_option maxHeartbeats 4000000 in
theorem wt_base_1 (l : Launch) (hst : l.stackTraces = false) (E : TE) (x m : XS) (g o : Int64) {a0 : Int32} {a1 : Int32} (hf : t_X4_base x a0 a1 = some 1) : MW l E yL_base cL_base 5 [(0, 10, 13, 13), (0, 10, 17, 15)] 9 [rf E 0, .int a0, .int a1, rf E 217] (Wd E x m g o) (Wd E x m g o) (some (.int 1)) := by
  refine w_in (by decide) (Nat.le_of_ble_eq_true rfl) ?_
  intro p e s mi args below meth c H ls hx hb hr hlk htab hml hown hB hK hW hS hl
  have hl : lv_has ls 5 [(0, rf E 0), (1, .int a0), (2, .int a1), (3, rf E 217)] := hl
  have hM : MT l E yX4_base cX4_base 3 (some .int) 7 [rf E 0, .int a0, .int a1] (Wd E x m g o) "java/lang/IndexOutOfBoundsException" := tp_X4_base l hst E x m g o hf
  refine lv_aload_n hx hb dL_base_0 rfl (lv_at hl 3 rfl) ?_
  refine lv_iconst (v := 0) hx hb dL_base_1 (by decide) ?_
  refine lv_aload_n hx hb dL_base_2 rfl (lv_at hl 0 rfl) ?_
  refine lv_iload_n hx hb dL_base_3 rfl (lv_at hl 1 rfl) ?_
  refine lv_iload_n hx hb dL_base_4 rfl (lv_at hl 2 rfl) ?_
  refine c_VT (As := [.int a0, .int a1]) (rest := [.int 0, rf E 217]) hM (kwT_23 hB ⟨Nat.le_of_ble_eq_true rfl, Nat.le_of_ble_eq_true rfl⟩) (Wd.rec hK hW (by decide) cX_0 (ci := 4) rfl) hx hb hml hown hB hK hW hS ⟨Nat.le_of_ble_eq_true rfl, Nat.le_of_ble_eq_true rfl⟩ rfl hl.1 rfl (Nat.le_of_ble_eq_true rfl) dL_base_5 [] ⟨0, 10, 13, 13⟩ [⟨0, 10, 17, 15⟩] (htab.trans rfl) (fun z hz => nomatch hz) (by decide) (by decide) q_704 nwc_1 (hpc := 13) rfl (fun H locs q9 hW hS => ?_)
  refine lv_astore (lv' := [(4, .ref q9), (0, rf E 0), (1, .int a0), (2, .int a1), (3, rf E 217)]) hx hb dL_base_13 hl (by decide) rfl (fun ls hl => ?_)
  refine lv_iconst (v := 1) hx hb dL_base_15 (by decide) ?_
  exact e_iw (Nat.le_refl _) (Nat.le_refl _) hx hb hr hlk hW hS dL_base_16
set_option maxRecDepth 100000 in
set_option maxHeartbeats 4000000 in
theorem wt_base_2 (l : Launch) (hst : l.stackTraces = false) (E : TE) (x m : XS) (g o : Int64) {a0 : Int32} {a1 : Int32} (hf : t_X4_base x a0 a1 = some 2) : MW l E yL_base cL_base 5 [(0, 10, 13, 13), (0, 10, 17, 15)] 9 [rf E 0, .int a0, .int a1, rf E 217] (Wd E x m g o) (Wd E x m g o) (some (.int 2)) := by
  refine w_in (by decide) (Nat.le_of_ble_eq_true rfl) ?_
  intro p e s mi args below meth c H ls hx hb hr hlk htab hml hown hB hK hW hS hl
  have hl : lv_has ls 5 [(0, rf E 0), (1, .int a0), (2, .int a1), (3, rf E 217)] := hl
  have hM : MT l E yX4_base cX4_base 3 (some .int) 7 [rf E 0, .int a0, .int a1] (Wd E x m g o) "java/lang/IllegalArgumentException" := tp_X4_base l hst E x m g o hf
  refine lv_aload_n hx hb dL_base_0 rfl (lv_at hl 3 rfl) ?_
  refine lv_iconst (v := 0) hx hb dL_base_1 (by decide) ?_
  refine lv_aload_n hx hb dL_base_2 rfl (lv_at hl 0 rfl) ?_
  refine lv_iload_n hx hb dL_base_3 rfl (lv_at hl 1 rfl) ?_
  refine lv_iload_n hx hb dL_base_4 rfl (lv_at hl 2 rfl) ?_
  refine c_VT (As := [.int a0, .int a1]) (rest := [.int 0, rf E 217]) hM (kwT_23 hB ⟨Nat.le_of_ble_eq_true rfl, Nat.le_of_ble_eq_true rfl⟩) (Wd.rec hK hW (by decide) cX_0 (ci := 4) rfl) hx hb hml hown hB hK hW hS ⟨Nat.le_of_ble_eq_true rfl, Nat.le_of_ble_eq_true rfl⟩ rfl hl.1 rfl (Nat.le_of_ble_eq_true rfl) dL_base_5 [⟨0, 10, 13, 13⟩] ⟨0, 10, 17, 15⟩ [] (htab.trans rfl) (by
    intro z hz
    rcases List.mem_cons.mp hz with rfl | hz
    · exact ⟨by decide, "java/lang/IndexOutOfBoundsException", q_704, by decide⟩
    exact nomatch hz) (by decide) (by decide) q_705 nwc_2 (hpc := 17) rfl (fun H locs q9 hW hS => ?_)
  refine lv_astore (lv' := [(4, .ref q9), (0, rf E 0), (1, .int a0), (2, .int a1), (3, rf E 217)]) hx hb dL_base_17 hl (by decide) rfl (fun ls hl => ?_)
  refine lv_iconst (v := 2) hx hb dL_base_19 (by decide) ?_
  exact e_iw (Nat.le_refl _) (Nat.le_refl _) hx hb hr hlk hW hS dL_base_20
set_option maxRecDepth 100000 in
set_option maxHeartbeats 4000000 in
theorem wn_set (l : Launch) (E : TE) (x m : XS) (g o : Int64) {a0 : Int32} {a1 : Int32} {r : Int32} {xr : XS} (hf : f_X4_set x a0 a1 = some (r, xr)) : MW l E yL_set cL_set 5 [(0, 10, 13, 13), (0, 10, 17, 15)] 9 [rf E 0, .int a0, .int a1, rf E 217] (Wd E x m g o) (Wd E xr m g r.toInt64) (some (.int 0)) := by
  refine w_in (by decide) (Nat.le_of_ble_eq_true rfl) ?_
  intro p e s mi args below meth c H ls hx hb hr hlk htab hml hown hB hK hW hS hl
  have hl : lv_has ls 5 [(0, rf E 0), (1, .int a0), (2, .int a1), (3, rf E 217)] := hl
  refine lv_aload_n hx hb dL_set_0 rfl (lv_at hl 3 rfl) ?_
  refine lv_iconst (v := 0) hx hb dL_set_1 (by decide) ?_
  refine lv_aload_n hx hb dL_set_2 rfl (lv_at hl 0 rfl) ?_
  refine lv_iload_n hx hb dL_set_3 rfl (lv_at hl 1 rfl) ?_
  refine lv_iload_n hx hb dL_set_4 rfl (lv_at hl 2 rfl) ?_
  refine c_V (As := [.int a0, .int a1]) (st1 := [.int r, .int 0, rf E 217]) (rest := [.int 0, rf E 217]) (p_X4_set l E x m g o hf) (kw_26 hB ⟨Nat.le_of_ble_eq_true rfl, Nat.le_of_ble_eq_true rfl⟩) (Wd.rec hK hW (by decide) cX_0 (ci := 4) rfl) hx hb hml hown hB hK hW hS ⟨Nat.zero_le _, Nat.zero_le _⟩ rfl hl.1 rfl (Nat.le_of_ble_eq_true rfl) rfl dL_set_5 (fun H locs hW hS => ?_)
  refine lv_i2l hx hb dL_set_8 rfl ?_
  refine r_last hx hb hK hW hS dL_set_9 (fun H locs hW hS => ?_)
  refine lv_goto (tgt := 21) hx hb dL_set_10 (by decide) ?_
  refine lv_iconst (v := 0) hx hb dL_set_21 (by decide) ?_
  exact e_iw (Nat.zero_le _) (Nat.zero_le _) hx hb hr hlk hW hS dL_set_22
set_option maxRecDepth 100000 in
set_option maxHeartbeats 4000000 in
theorem wt_set_1 (l : Launch) (hst : l.stackTraces = false) (E : TE) (x m : XS) (g o : Int64) {a0 : Int32} {a1 : Int32} (hf : t_X4_set x a0 a1 = some 1) : MW l E yL_set cL_set 5 [(0, 10, 13, 13), (0, 10, 17, 15)] 9 [rf E 0, .int a0, .int a1, rf E 217] (Wd E x m g o) (Wd E x m g o) (some (.int 1)) := by
  refine w_in (by decide) (Nat.le_of_ble_eq_true rfl) ?_
  intro p e s mi args below meth c H ls hx hb hr hlk htab hml hown hB hK hW hS hl
  have hl : lv_has ls 5 [(0, rf E 0), (1, .int a0), (2, .int a1), (3, rf E 217)] := hl
  have hM : MT l E yX4_set cX4_set 3 (some .int) 7 [rf E 0, .int a0, .int a1] (Wd E x m g o) "java/lang/IndexOutOfBoundsException" := tp_X4_set l hst E x m g o hf
  refine lv_aload_n hx hb dL_set_0 rfl (lv_at hl 3 rfl) ?_
  refine lv_iconst (v := 0) hx hb dL_set_1 (by decide) ?_
  refine lv_aload_n hx hb dL_set_2 rfl (lv_at hl 0 rfl) ?_
  refine lv_iload_n hx hb dL_set_3 rfl (lv_at hl 1 rfl) ?_
  refine lv_iload_n hx hb dL_set_4 rfl (lv_at hl 2 rfl) ?_
  refine c_VT (As := [.int a0, .int a1]) (rest := [.int 0, rf E 217]) hM (kwT_26 hB ⟨Nat.le_of_ble_eq_true rfl, Nat.le_of_ble_eq_true rfl⟩) (Wd.rec hK hW (by decide) cX_0 (ci := 4) rfl) hx hb hml hown hB hK hW hS ⟨Nat.le_of_ble_eq_true rfl, Nat.le_of_ble_eq_true rfl⟩ rfl hl.1 rfl (Nat.le_of_ble_eq_true rfl) dL_set_5 [] ⟨0, 10, 13, 13⟩ [⟨0, 10, 17, 15⟩] (htab.trans rfl) (fun z hz => nomatch hz) (by decide) (by decide) q_704 nwc_1 (hpc := 13) rfl (fun H locs q9 hW hS => ?_)
  refine lv_astore (lv' := [(4, .ref q9), (0, rf E 0), (1, .int a0), (2, .int a1), (3, rf E 217)]) hx hb dL_set_13 hl (by decide) rfl (fun ls hl => ?_)
  refine lv_iconst (v := 1) hx hb dL_set_15 (by decide) ?_
  exact e_iw (Nat.le_refl _) (Nat.le_refl _) hx hb hr hlk hW hS dL_set_16
set_option maxRecDepth 100000 in
set_option maxHeartbeats 4000000 in
theorem wt_set_2 (l : Launch) (hst : l.stackTraces = false) (E : TE) (x m : XS) (g o : Int64) {a0 : Int32} {a1 : Int32} (hf : t_X4_set x a0 a1 = some 2) : MW l E yL_set cL_set 5 [(0, 10, 13, 13), (0, 10, 17, 15)] 9 [rf E 0, .int a0, .int a1, rf E 217] (Wd E x m g o) (Wd E x m g o) (some (.int 2)) := by
  refine w_in (by decide) (Nat.le_of_ble_eq_true rfl) ?_
  intro p e s mi args below meth c H ls hx hb hr hlk htab hml hown hB hK hW hS hl
  have hl : lv_has ls 5 [(0, rf E 0), (1, .int a0), (2, .int a1), (3, rf E 217)] := hl
  have hM : MT l E yX4_set cX4_set 3 (some .int) 7 [rf E 0, .int a0, .int a1] (Wd E x m g o) "java/lang/IllegalArgumentException" := tp_X4_set l hst E x m g o hf
  refine lv_aload_n hx hb dL_set_0 rfl (lv_at hl 3 rfl) ?_
  refine lv_iconst (v := 0) hx hb dL_set_1 (by decide) ?_
  refine lv_aload_n hx hb dL_set_2 rfl (lv_at hl 0 rfl) ?_
  refine lv_iload_n hx hb dL_set_3 rfl (lv_at hl 1 rfl) ?_
  refine lv_iload_n hx hb dL_set_4 rfl (lv_at hl 2 rfl) ?_
  refine c_VT (As := [.int a0, .int a1]) (rest := [.int 0, rf E 217]) hM (kwT_26 hB ⟨Nat.le_of_ble_eq_true rfl, Nat.le_of_ble_eq_true rfl⟩) (Wd.rec hK hW (by decide) cX_0 (ci := 4) rfl) hx hb hml hown hB hK hW hS ⟨Nat.le_of_ble_eq_true rfl, Nat.le_of_ble_eq_true rfl⟩ rfl hl.1 rfl (Nat.le_of_ble_eq_true rfl) dL_set_5 [⟨0, 10, 13, 13⟩] ⟨0, 10, 17, 15⟩ [] (htab.trans rfl) (by
    intro z hz
    rcases List.mem_cons.mp hz with rfl | hz
    · exact ⟨by decide, "java/lang/IndexOutOfBoundsException", q_704, by decide⟩
    exact nomatch hz) (by decide) (by decide) q_705 nwc_2 (hpc := 17) rfl (fun H locs q9 hW hS => ?_)
  refine lv_astore (lv' := [(4, .ref q9), (0, rf E 0), (1, .int a0), (2, .int a1), (3, rf E 217)]) hx hb dL_set_17 hl (by decide) rfl (fun ls hl => ?_)
  refine lv_iconst (v := 2) hx hb dL_set_19 (by decide) ?_
  exact e_iw (Nat.le_refl _) (Nat.le_refl _) hx hb hr hlk hW hS dL_set_20
set_option maxRecDepth 100000 in
set_option maxHeartbeats 4000000 in
theorem wn_complain (l : Launch) (E : TE) (x m : XS) (g o : Int64) {a0 : Int32} {a1 : Int32} {a2 : Int32} {r : Int32} {xr : XS} (hf : f_X4_complain x a0 a1 a2 = some (r, xr)) : MW l E yL_complain cL_complain 6 [(0, 12, 15, 13), (0, 12, 19, 15), (0, 12, 23, 17)] 9 [rf E 0, .int a0, .int a1, .int a2, rf E 217] (Wd E x m g o) (Wd E xr m g r.toInt64) (some (.int 0)) := by
  refine w_in (by decide) (Nat.le_of_ble_eq_true rfl) ?_
  intro p e s mi args below meth c H ls hx hb hr hlk htab hml hown hB hK hW hS hl
  have hl : lv_has ls 6 [(0, rf E 0), (1, .int a0), (2, .int a1), (3, .int a2), (4, rf E 217)] := hl
  refine lv_aload hx hb dL_complain_0 (lv_at hl 4 rfl) ?_
  refine lv_iconst (v := 0) hx hb dL_complain_2 (by decide) ?_
  refine lv_aload_n hx hb dL_complain_3 rfl (lv_at hl 0 rfl) ?_
  refine lv_iload_n hx hb dL_complain_4 rfl (lv_at hl 1 rfl) ?_
  refine lv_iload_n hx hb dL_complain_5 rfl (lv_at hl 2 rfl) ?_
  refine lv_iload_n hx hb dL_complain_6 rfl (lv_at hl 3 rfl) ?_
  refine c_V (As := [.int a0, .int a1, .int a2]) (st1 := [.int r, .int 0, rf E 217]) (rest := [.int 0, rf E 217]) (p_X4_complain l E x m g o hf) (kw_29 hB ⟨Nat.le_of_ble_eq_true rfl, Nat.le_of_ble_eq_true rfl⟩) (Wd.rec hK hW (by decide) cX_0 (ci := 4) rfl) hx hb hml hown hB hK hW hS ⟨Nat.zero_le _, Nat.zero_le _⟩ rfl hl.1 rfl (Nat.le_of_ble_eq_true rfl) rfl dL_complain_7 (fun H locs hW hS => ?_)
  refine lv_i2l hx hb dL_complain_10 rfl ?_
  refine r_last hx hb hK hW hS dL_complain_11 (fun H locs hW hS => ?_)
  refine lv_goto (tgt := 27) hx hb dL_complain_12 (by decide) ?_
  refine lv_iconst (v := 0) hx hb dL_complain_27 (by decide) ?_
  exact e_iw (Nat.zero_le _) (Nat.zero_le _) hx hb hr hlk hW hS dL_complain_28
set_option maxRecDepth 100000 in
set_option maxHeartbeats 4000000 in
theorem wt_complain_1 (l : Launch) (hst : l.stackTraces = false) (E : TE) (x m : XS) (g o : Int64) {a0 : Int32} {a1 : Int32} {a2 : Int32} (hf : t_X4_complain x a0 a1 a2 = some 1) : MW l E yL_complain cL_complain 6 [(0, 12, 15, 13), (0, 12, 19, 15), (0, 12, 23, 17)] 9 [rf E 0, .int a0, .int a1, .int a2, rf E 217] (Wd E x m g o) (Wd E x m g o) (some (.int 1)) := by
  refine w_in (by decide) (Nat.le_of_ble_eq_true rfl) ?_
  intro p e s mi args below meth c H ls hx hb hr hlk htab hml hown hB hK hW hS hl
  have hl : lv_has ls 6 [(0, rf E 0), (1, .int a0), (2, .int a1), (3, .int a2), (4, rf E 217)] := hl
  have hM : MT l E yX4_complain cX4_complain 4 (some .int) 7 [rf E 0, .int a0, .int a1, .int a2] (Wd E x m g o) "java/lang/IndexOutOfBoundsException" := tp_X4_complain l hst E x m g o hf
  refine lv_aload hx hb dL_complain_0 (lv_at hl 4 rfl) ?_
  refine lv_iconst (v := 0) hx hb dL_complain_2 (by decide) ?_
  refine lv_aload_n hx hb dL_complain_3 rfl (lv_at hl 0 rfl) ?_
  refine lv_iload_n hx hb dL_complain_4 rfl (lv_at hl 1 rfl) ?_
  refine lv_iload_n hx hb dL_complain_5 rfl (lv_at hl 2 rfl) ?_
  refine lv_iload_n hx hb dL_complain_6 rfl (lv_at hl 3 rfl) ?_
  refine c_VT (As := [.int a0, .int a1, .int a2]) (rest := [.int 0, rf E 217]) hM (kwT_29 hB ⟨Nat.le_of_ble_eq_true rfl, Nat.le_of_ble_eq_true rfl⟩) (Wd.rec hK hW (by decide) cX_0 (ci := 4) rfl) hx hb hml hown hB hK hW hS ⟨Nat.le_of_ble_eq_true rfl, Nat.le_of_ble_eq_true rfl⟩ rfl hl.1 rfl (Nat.le_of_ble_eq_true rfl) dL_complain_7 [] ⟨0, 12, 15, 13⟩ [⟨0, 12, 19, 15⟩, ⟨0, 12, 23, 17⟩] (htab.trans rfl) (fun z hz => nomatch hz) (by decide) (by decide) q_704 nwc_1 (hpc := 15) rfl (fun H locs q9 hW hS => ?_)
  refine lv_astore (lv' := [(5, .ref q9), (0, rf E 0), (1, .int a0), (2, .int a1), (3, .int a2), (4, rf E 217)]) hx hb dL_complain_15 hl (by decide) rfl (fun ls hl => ?_)
  refine lv_iconst (v := 1) hx hb dL_complain_17 (by decide) ?_
  exact e_iw (Nat.le_refl _) (Nat.le_refl _) hx hb hr hlk hW hS dL_complain_18
set_option maxRecDepth 100000 in
set_option maxHeartbeats 4000000 in
theorem wt_complain_2 (l : Launch) (hst : l.stackTraces = false) (E : TE) (x m : XS) (g o : Int64) {a0 : Int32} {a1 : Int32} {a2 : Int32} (hf : t_X4_complain x a0 a1 a2 = some 2) : MW l E yL_complain cL_complain 6 [(0, 12, 15, 13), (0, 12, 19, 15), (0, 12, 23, 17)] 9 [rf E 0, .int a0, .int a1, .int a2, rf E 217] (Wd E x m g o) (Wd E x m g o) (some (.int 2)) := by
  refine w_in (by decide) (Nat.le_of_ble_eq_true rfl) ?_
  intro p e s mi args below meth c H ls hx hb hr hlk htab hml hown hB hK hW hS hl
  have hl : lv_has ls 6 [(0, rf E 0), (1, .int a0), (2, .int a1), (3, .int a2), (4, rf E 217)] := hl
  have hM : MT l E yX4_complain cX4_complain 4 (some .int) 7 [rf E 0, .int a0, .int a1, .int a2] (Wd E x m g o) "java/lang/IllegalArgumentException" := tp_X4_complain l hst E x m g o hf
  refine lv_aload hx hb dL_complain_0 (lv_at hl 4 rfl) ?_
  refine lv_iconst (v := 0) hx hb dL_complain_2 (by decide) ?_
  refine lv_aload_n hx hb dL_complain_3 rfl (lv_at hl 0 rfl) ?_
  refine lv_iload_n hx hb dL_complain_4 rfl (lv_at hl 1 rfl) ?_
  refine lv_iload_n hx hb dL_complain_5 rfl (lv_at hl 2 rfl) ?_
  refine lv_iload_n hx hb dL_complain_6 rfl (lv_at hl 3 rfl) ?_
  refine c_VT (As := [.int a0, .int a1, .int a2]) (rest := [.int 0, rf E 217]) hM (kwT_29 hB ⟨Nat.le_of_ble_eq_true rfl, Nat.le_of_ble_eq_true rfl⟩) (Wd.rec hK hW (by decide) cX_0 (ci := 4) rfl) hx hb hml hown hB hK hW hS ⟨Nat.le_of_ble_eq_true rfl, Nat.le_of_ble_eq_true rfl⟩ rfl hl.1 rfl (Nat.le_of_ble_eq_true rfl) dL_complain_7 [⟨0, 12, 15, 13⟩] ⟨0, 12, 19, 15⟩ [⟨0, 12, 23, 17⟩] (htab.trans rfl) (by
    intro z hz
    rcases List.mem_cons.mp hz with rfl | hz
    · exact ⟨by decide, "java/lang/IndexOutOfBoundsException", q_704, by decide⟩
    exact nomatch hz) (by decide) (by decide) q_705 nwc_2 (hpc := 19) rfl (fun H locs q9 hW hS => ?_)
  refine lv_astore (lv' := [(5, .ref q9), (0, rf E 0), (1, .int a0), (2, .int a1), (3, .int a2), (4, rf E 217)]) hx hb dL_complain_19 hl (by decide) rfl (fun ls hl => ?_)
  refine lv_iconst (v := 2) hx hb dL_complain_21 (by decide) ?_
  exact e_iw (Nat.le_refl _) (Nat.le_refl _) hx hb hr hlk hW hS dL_complain_22
set_option maxRecDepth 100000 in
set_option maxHeartbeats 4000000 in
theorem wt_complain_3 (l : Launch) (hst : l.stackTraces = false) (E : TE) (x m : XS) (g o : Int64) {a0 : Int32} {a1 : Int32} {a2 : Int32} (hf : t_X4_complain x a0 a1 a2 = some 3) : MW l E yL_complain cL_complain 6 [(0, 12, 15, 13), (0, 12, 19, 15), (0, 12, 23, 17)] 9 [rf E 0, .int a0, .int a1, .int a2, rf E 217] (Wd E x m g o) (Wd E x m g o) (some (.int 3)) := by
  refine w_in (by decide) (Nat.le_of_ble_eq_true rfl) ?_
  intro p e s mi args below meth c H ls hx hb hr hlk htab hml hown hB hK hW hS hl
  have hl : lv_has ls 6 [(0, rf E 0), (1, .int a0), (2, .int a1), (3, .int a2), (4, rf E 217)] := hl
  have hM : MT l E yX4_complain cX4_complain 4 (some .int) 7 [rf E 0, .int a0, .int a1, .int a2] (Wd E x m g o) "java/lang/IllegalStateException" := tp_X4_complain l hst E x m g o hf
  refine lv_aload hx hb dL_complain_0 (lv_at hl 4 rfl) ?_
  refine lv_iconst (v := 0) hx hb dL_complain_2 (by decide) ?_
  refine lv_aload_n hx hb dL_complain_3 rfl (lv_at hl 0 rfl) ?_
  refine lv_iload_n hx hb dL_complain_4 rfl (lv_at hl 1 rfl) ?_
  refine lv_iload_n hx hb dL_complain_5 rfl (lv_at hl 2 rfl) ?_
  refine lv_iload_n hx hb dL_complain_6 rfl (lv_at hl 3 rfl) ?_
  refine c_VT (As := [.int a0, .int a1, .int a2]) (rest := [.int 0, rf E 217]) hM (kwT_29 hB ⟨Nat.le_of_ble_eq_true rfl, Nat.le_of_ble_eq_true rfl⟩) (Wd.rec hK hW (by decide) cX_0 (ci := 4) rfl) hx hb hml hown hB hK hW hS ⟨Nat.le_of_ble_eq_true rfl, Nat.le_of_ble_eq_true rfl⟩ rfl hl.1 rfl (Nat.le_of_ble_eq_true rfl) dL_complain_7 [⟨0, 12, 15, 13⟩, ⟨0, 12, 19, 15⟩] ⟨0, 12, 23, 17⟩ [] (htab.trans rfl) (by
    intro z hz
    rcases List.mem_cons.mp hz with rfl | hz
    · exact ⟨by decide, "java/lang/IndexOutOfBoundsException", q_704, by decide⟩
    rcases List.mem_cons.mp hz with rfl | hz
    · exact ⟨by decide, "java/lang/IllegalArgumentException", q_705, by decide⟩
    exact nomatch hz) (by decide) (by decide) q_706 nwc_3 (hpc := 23) rfl (fun H locs q9 hW hS => ?_)
  refine lv_astore (lv' := [(5, .ref q9), (0, rf E 0), (1, .int a0), (2, .int a1), (3, .int a2), (4, rf E 217)]) hx hb dL_complain_23 hl (by decide) rfl (fun ls hl => ?_)
  refine lv_iconst (v := 3) hx hb dL_complain_25 (by decide) ?_
  exact e_iw (Nat.le_refl _) (Nat.le_refl _) hx hb hr hlk hW hS dL_complain_26
set_option maxRecDepth 100000 in
set_option maxHeartbeats 4000000 in
theorem wn_decide (l : Launch) (E : TE) (x m : XS) (g o : Int64) {a0 : Int32} {a1 : Int32} {a2 : Int32} {r : Int32} {xr : XS} (hf : f_X4_decide x a0 a1 a2 = some (r, xr)) : MW l E yL_decide cL_decide 6 [(0, 12, 15, 13), (0, 12, 19, 15), (0, 12, 23, 17)] 9 [rf E 0, .int a0, .int a1, .int a2, rf E 217] (Wd E x m g o) (Wd E xr m g r.toInt64) (some (.int 0)) := by
  refine w_in (by decide) (Nat.le_of_ble_eq_true rfl) ?_
  intro p e s mi args below meth c H ls hx hb hr hlk htab hml hown hB hK hW hS hl
  have hl : lv_has ls 6 [(0, rf E 0), (1, .int a0), (2, .int a1), (3, .int a2), (4, rf E 217)] := hl
  refine lv_aload hx hb dL_decide_0 (lv_at hl 4 rfl) ?_
  refine lv_iconst (v := 0) hx hb dL_decide_2 (by decide) ?_
  refine lv_aload_n hx hb dL_decide_3 rfl (lv_at hl 0 rfl) ?_
  refine lv_iload_n hx hb dL_decide_4 rfl (lv_at hl 1 rfl) ?_
  refine lv_iload_n hx hb dL_decide_5 rfl (lv_at hl 2 rfl) ?_
  refine lv_iload_n hx hb dL_decide_6 rfl (lv_at hl 3 rfl) ?_
  refine c_V (As := [.int a0, .int a1, .int a2]) (st1 := [.int r, .int 0, rf E 217]) (rest := [.int 0, rf E 217]) (p_X4_decide l E x m g o hf) (kw_33 hB ⟨Nat.le_of_ble_eq_true rfl, Nat.le_of_ble_eq_true rfl⟩) (Wd.rec hK hW (by decide) cX_0 (ci := 4) rfl) hx hb hml hown hB hK hW hS ⟨Nat.zero_le _, Nat.zero_le _⟩ rfl hl.1 rfl (Nat.le_of_ble_eq_true rfl) rfl dL_decide_7 (fun H locs hW hS => ?_)
  refine lv_i2l hx hb dL_decide_10 rfl ?_
  refine r_last hx hb hK hW hS dL_decide_11 (fun H locs hW hS => ?_)
  refine lv_goto (tgt := 27) hx hb dL_decide_12 (by decide) ?_
  refine lv_iconst (v := 0) hx hb dL_decide_27 (by decide) ?_
  exact e_iw (Nat.zero_le _) (Nat.zero_le _) hx hb hr hlk hW hS dL_decide_28
set_option maxRecDepth 100000 in
set_option maxHeartbeats 4000000 in
theorem wt_decide_1 (l : Launch) (hst : l.stackTraces = false) (E : TE) (x m : XS) (g o : Int64) {a0 : Int32} {a1 : Int32} {a2 : Int32} (hf : t_X4_decide x a0 a1 a2 = some 1) : MW l E yL_decide cL_decide 6 [(0, 12, 15, 13), (0, 12, 19, 15), (0, 12, 23, 17)] 9 [rf E 0, .int a0, .int a1, .int a2, rf E 217] (Wd E x m g o) (Wd E x m g o) (some (.int 1)) := by
  refine w_in (by decide) (Nat.le_of_ble_eq_true rfl) ?_
  intro p e s mi args below meth c H ls hx hb hr hlk htab hml hown hB hK hW hS hl
  have hl : lv_has ls 6 [(0, rf E 0), (1, .int a0), (2, .int a1), (3, .int a2), (4, rf E 217)] := hl
  have hM : MT l E yX4_decide cX4_decide 4 (some .int) 7 [rf E 0, .int a0, .int a1, .int a2] (Wd E x m g o) "java/lang/IndexOutOfBoundsException" := tp_X4_decide l hst E x m g o hf
  refine lv_aload hx hb dL_decide_0 (lv_at hl 4 rfl) ?_
  refine lv_iconst (v := 0) hx hb dL_decide_2 (by decide) ?_
  refine lv_aload_n hx hb dL_decide_3 rfl (lv_at hl 0 rfl) ?_
  refine lv_iload_n hx hb dL_decide_4 rfl (lv_at hl 1 rfl) ?_
  refine lv_iload_n hx hb dL_decide_5 rfl (lv_at hl 2 rfl) ?_
  refine lv_iload_n hx hb dL_decide_6 rfl (lv_at hl 3 rfl) ?_
  refine c_VT (As := [.int a0, .int a1, .int a2]) (rest := [.int 0, rf E 217]) hM (kwT_33 hB ⟨Nat.le_of_ble_eq_true rfl, Nat.le_of_ble_eq_true rfl⟩) (Wd.rec hK hW (by decide) cX_0 (ci := 4) rfl) hx hb hml hown hB hK hW hS ⟨Nat.le_of_ble_eq_true rfl, Nat.le_of_ble_eq_true rfl⟩ rfl hl.1 rfl (Nat.le_of_ble_eq_true rfl) dL_decide_7 [] ⟨0, 12, 15, 13⟩ [⟨0, 12, 19, 15⟩, ⟨0, 12, 23, 17⟩] (htab.trans rfl) (fun z hz => nomatch hz) (by decide) (by decide) q_704 nwc_1 (hpc := 15) rfl (fun H locs q9 hW hS => ?_)
  refine lv_astore (lv' := [(5, .ref q9), (0, rf E 0), (1, .int a0), (2, .int a1), (3, .int a2), (4, rf E 217)]) hx hb dL_decide_15 hl (by decide) rfl (fun ls hl => ?_)
  refine lv_iconst (v := 1) hx hb dL_decide_17 (by decide) ?_
  exact e_iw (Nat.le_refl _) (Nat.le_refl _) hx hb hr hlk hW hS dL_decide_18
set_option maxRecDepth 100000 in
set_option maxHeartbeats 4000000 in
theorem wt_decide_2 (l : Launch) (hst : l.stackTraces = false) (E : TE) (x m : XS) (g o : Int64) {a0 : Int32} {a1 : Int32} {a2 : Int32} (hf : t_X4_decide x a0 a1 a2 = some 2) : MW l E yL_decide cL_decide 6 [(0, 12, 15, 13), (0, 12, 19, 15), (0, 12, 23, 17)] 9 [rf E 0, .int a0, .int a1, .int a2, rf E 217] (Wd E x m g o) (Wd E x m g o) (some (.int 2)) := by
  refine w_in (by decide) (Nat.le_of_ble_eq_true rfl) ?_
  intro p e s mi args below meth c H ls hx hb hr hlk htab hml hown hB hK hW hS hl
  have hl : lv_has ls 6 [(0, rf E 0), (1, .int a0), (2, .int a1), (3, .int a2), (4, rf E 217)] := hl
  have hM : MT l E yX4_decide cX4_decide 4 (some .int) 7 [rf E 0, .int a0, .int a1, .int a2] (Wd E x m g o) "java/lang/IllegalArgumentException" := tp_X4_decide l hst E x m g o hf
  refine lv_aload hx hb dL_decide_0 (lv_at hl 4 rfl) ?_
  refine lv_iconst (v := 0) hx hb dL_decide_2 (by decide) ?_
  refine lv_aload_n hx hb dL_decide_3 rfl (lv_at hl 0 rfl) ?_
  refine lv_iload_n hx hb dL_decide_4 rfl (lv_at hl 1 rfl) ?_
  refine lv_iload_n hx hb dL_decide_5 rfl (lv_at hl 2 rfl) ?_
  refine lv_iload_n hx hb dL_decide_6 rfl (lv_at hl 3 rfl) ?_
  refine c_VT (As := [.int a0, .int a1, .int a2]) (rest := [.int 0, rf E 217]) hM (kwT_33 hB ⟨Nat.le_of_ble_eq_true rfl, Nat.le_of_ble_eq_true rfl⟩) (Wd.rec hK hW (by decide) cX_0 (ci := 4) rfl) hx hb hml hown hB hK hW hS ⟨Nat.le_of_ble_eq_true rfl, Nat.le_of_ble_eq_true rfl⟩ rfl hl.1 rfl (Nat.le_of_ble_eq_true rfl) dL_decide_7 [⟨0, 12, 15, 13⟩] ⟨0, 12, 19, 15⟩ [⟨0, 12, 23, 17⟩] (htab.trans rfl) (by
    intro z hz
    rcases List.mem_cons.mp hz with rfl | hz
    · exact ⟨by decide, "java/lang/IndexOutOfBoundsException", q_704, by decide⟩
    exact nomatch hz) (by decide) (by decide) q_705 nwc_2 (hpc := 19) rfl (fun H locs q9 hW hS => ?_)
  refine lv_astore (lv' := [(5, .ref q9), (0, rf E 0), (1, .int a0), (2, .int a1), (3, .int a2), (4, rf E 217)]) hx hb dL_decide_19 hl (by decide) rfl (fun ls hl => ?_)
  refine lv_iconst (v := 2) hx hb dL_decide_21 (by decide) ?_
  exact e_iw (Nat.le_refl _) (Nat.le_refl _) hx hb hr hlk hW hS dL_decide_22
set_option maxRecDepth 100000 in
set_option maxHeartbeats 4000000 in
theorem wt_decide_3 (l : Launch) (hst : l.stackTraces = false) (E : TE) (x m : XS) (g o : Int64) {a0 : Int32} {a1 : Int32} {a2 : Int32} (hf : t_X4_decide x a0 a1 a2 = some 3) : MW l E yL_decide cL_decide 6 [(0, 12, 15, 13), (0, 12, 19, 15), (0, 12, 23, 17)] 9 [rf E 0, .int a0, .int a1, .int a2, rf E 217] (Wd E x m g o) (Wd E x m g o) (some (.int 3)) := by
  refine w_in (by decide) (Nat.le_of_ble_eq_true rfl) ?_
  intro p e s mi args below meth c H ls hx hb hr hlk htab hml hown hB hK hW hS hl
  have hl : lv_has ls 6 [(0, rf E 0), (1, .int a0), (2, .int a1), (3, .int a2), (4, rf E 217)] := hl
  have hM : MT l E yX4_decide cX4_decide 4 (some .int) 7 [rf E 0, .int a0, .int a1, .int a2] (Wd E x m g o) "java/lang/IllegalStateException" := tp_X4_decide l hst E x m g o hf
  refine lv_aload hx hb dL_decide_0 (lv_at hl 4 rfl) ?_
  refine lv_iconst (v := 0) hx hb dL_decide_2 (by decide) ?_
  refine lv_aload_n hx hb dL_decide_3 rfl (lv_at hl 0 rfl) ?_
  refine lv_iload_n hx hb dL_decide_4 rfl (lv_at hl 1 rfl) ?_
  refine lv_iload_n hx hb dL_decide_5 rfl (lv_at hl 2 rfl) ?_
  refine lv_iload_n hx hb dL_decide_6 rfl (lv_at hl 3 rfl) ?_
  refine c_VT (As := [.int a0, .int a1, .int a2]) (rest := [.int 0, rf E 217]) hM (kwT_33 hB ⟨Nat.le_of_ble_eq_true rfl, Nat.le_of_ble_eq_true rfl⟩) (Wd.rec hK hW (by decide) cX_0 (ci := 4) rfl) hx hb hml hown hB hK hW hS ⟨Nat.le_of_ble_eq_true rfl, Nat.le_of_ble_eq_true rfl⟩ rfl hl.1 rfl (Nat.le_of_ble_eq_true rfl) dL_decide_7 [⟨0, 12, 15, 13⟩, ⟨0, 12, 19, 15⟩] ⟨0, 12, 23, 17⟩ [] (htab.trans rfl) (by
    intro z hz
    rcases List.mem_cons.mp hz with rfl | hz
    · exact ⟨by decide, "java/lang/IndexOutOfBoundsException", q_704, by decide⟩
    rcases List.mem_cons.mp hz with rfl | hz
    · exact ⟨by decide, "java/lang/IllegalArgumentException", q_705, by decide⟩
    exact nomatch hz) (by decide) (by decide) q_706 nwc_3 (hpc := 23) rfl (fun H locs q9 hW hS => ?_)
  refine lv_astore (lv' := [(5, .ref q9), (0, rf E 0), (1, .int a0), (2, .int a1), (3, .int a2), (4, rf E 217)]) hx hb dL_decide_23 hl (by decide) rfl (fun ls hl => ?_)
  refine lv_iconst (v := 3) hx hb dL_decide_25 (by decide) ?_
  exact e_iw (Nat.le_refl _) (Nat.le_refl _) hx hb hr hlk hW hS dL_decide_26
set_option maxRecDepth 100000 in
set_option maxHeartbeats 4000000 in
theorem wn_appeal (l : Launch) (E : TE) (x m : XS) (g o : Int64) {a0 : Int32} {r : Int32} {xr : XS} (hf : f_X4_appeal x a0 = some (r, xr)) : MW l E yL_appeal cL_appeal 4 [(0, 9, 12, 13), (0, 9, 15, 17)] 9 [rf E 0, .int a0, rf E 217] (Wd E x m g o) (Wd E xr m g r.toInt64) (some (.int 0)) := by
  refine w_in (by decide) (Nat.le_of_ble_eq_true rfl) ?_
  intro p e s mi args below meth c H ls hx hb hr hlk htab hml hown hB hK hW hS hl
  have hl : lv_has ls 4 [(0, rf E 0), (1, .int a0), (2, rf E 217)] := hl
  refine lv_aload_n hx hb dL_appeal_0 rfl (lv_at hl 2 rfl) ?_
  refine lv_iconst (v := 0) hx hb dL_appeal_1 (by decide) ?_
  refine lv_aload_n hx hb dL_appeal_2 rfl (lv_at hl 0 rfl) ?_
  refine lv_iload_n hx hb dL_appeal_3 rfl (lv_at hl 1 rfl) ?_
  refine c_V (As := [.int a0]) (st1 := [.int r, .int 0, rf E 217]) (rest := [.int 0, rf E 217]) (p_X4_appeal l E x m g o hf) (kw_36 hB ⟨Nat.le_of_ble_eq_true rfl, Nat.le_of_ble_eq_true rfl⟩) (Wd.rec hK hW (by decide) cX_0 (ci := 4) rfl) hx hb hml hown hB hK hW hS ⟨Nat.zero_le _, Nat.zero_le _⟩ rfl hl.1 rfl (Nat.le_of_ble_eq_true rfl) rfl dL_appeal_4 (fun H locs hW hS => ?_)
  refine lv_i2l hx hb dL_appeal_7 rfl ?_
  refine r_last hx hb hK hW hS dL_appeal_8 (fun H locs hW hS => ?_)
  refine lv_goto (tgt := 18) hx hb dL_appeal_9 (by decide) ?_
  refine lv_iconst (v := 0) hx hb dL_appeal_18 (by decide) ?_
  exact e_iw (Nat.zero_le _) (Nat.zero_le _) hx hb hr hlk hW hS dL_appeal_19
set_option maxRecDepth 100000 in
set_option maxHeartbeats 4000000 in
theorem wt_appeal_1 (l : Launch) (hst : l.stackTraces = false) (E : TE) (x m : XS) (g o : Int64) {a0 : Int32} (hf : t_X4_appeal x a0 = some 1) : MW l E yL_appeal cL_appeal 4 [(0, 9, 12, 13), (0, 9, 15, 17)] 9 [rf E 0, .int a0, rf E 217] (Wd E x m g o) (Wd E x m g o) (some (.int 1)) := by
  refine w_in (by decide) (Nat.le_of_ble_eq_true rfl) ?_
  intro p e s mi args below meth c H ls hx hb hr hlk htab hml hown hB hK hW hS hl
  have hl : lv_has ls 4 [(0, rf E 0), (1, .int a0), (2, rf E 217)] := hl
  have hM : MT l E yX4_appeal cX4_appeal 2 (some .int) 7 [rf E 0, .int a0] (Wd E x m g o) "java/lang/IndexOutOfBoundsException" := tp_X4_appeal l hst E x m g o hf
  refine lv_aload_n hx hb dL_appeal_0 rfl (lv_at hl 2 rfl) ?_
  refine lv_iconst (v := 0) hx hb dL_appeal_1 (by decide) ?_
  refine lv_aload_n hx hb dL_appeal_2 rfl (lv_at hl 0 rfl) ?_
  refine lv_iload_n hx hb dL_appeal_3 rfl (lv_at hl 1 rfl) ?_
  refine c_VT (As := [.int a0]) (rest := [.int 0, rf E 217]) hM (kwT_36 hB ⟨Nat.le_of_ble_eq_true rfl, Nat.le_of_ble_eq_true rfl⟩) (Wd.rec hK hW (by decide) cX_0 (ci := 4) rfl) hx hb hml hown hB hK hW hS ⟨Nat.le_of_ble_eq_true rfl, Nat.le_of_ble_eq_true rfl⟩ rfl hl.1 rfl (Nat.le_of_ble_eq_true rfl) dL_appeal_4 [] ⟨0, 9, 12, 13⟩ [⟨0, 9, 15, 17⟩] (htab.trans rfl) (fun z hz => nomatch hz) (by decide) (by decide) q_704 nwc_1 (hpc := 12) rfl (fun H locs q9 hW hS => ?_)
  refine lv_astore_n (lv' := [(3, .ref q9), (0, rf E 0), (1, .int a0), (2, rf E 217)]) hx hb dL_appeal_12 rfl hl (by decide) rfl (fun ls hl => ?_)
  refine lv_iconst (v := 1) hx hb dL_appeal_13 (by decide) ?_
  exact e_iw (Nat.le_refl _) (Nat.le_refl _) hx hb hr hlk hW hS dL_appeal_14
set_option maxRecDepth 100000 in
set_option maxHeartbeats 4000000 in
theorem wt_appeal_3 (l : Launch) (hst : l.stackTraces = false) (E : TE) (x m : XS) (g o : Int64) {a0 : Int32} (hf : t_X4_appeal x a0 = some 3) : MW l E yL_appeal cL_appeal 4 [(0, 9, 12, 13), (0, 9, 15, 17)] 9 [rf E 0, .int a0, rf E 217] (Wd E x m g o) (Wd E x m g o) (some (.int 2)) := by
  refine w_in (by decide) (Nat.le_of_ble_eq_true rfl) ?_
  intro p e s mi args below meth c H ls hx hb hr hlk htab hml hown hB hK hW hS hl
  have hl : lv_has ls 4 [(0, rf E 0), (1, .int a0), (2, rf E 217)] := hl
  have hM : MT l E yX4_appeal cX4_appeal 2 (some .int) 7 [rf E 0, .int a0] (Wd E x m g o) "java/lang/IllegalStateException" := tp_X4_appeal l hst E x m g o hf
  refine lv_aload_n hx hb dL_appeal_0 rfl (lv_at hl 2 rfl) ?_
  refine lv_iconst (v := 0) hx hb dL_appeal_1 (by decide) ?_
  refine lv_aload_n hx hb dL_appeal_2 rfl (lv_at hl 0 rfl) ?_
  refine lv_iload_n hx hb dL_appeal_3 rfl (lv_at hl 1 rfl) ?_
  refine c_VT (As := [.int a0]) (rest := [.int 0, rf E 217]) hM (kwT_36 hB ⟨Nat.le_of_ble_eq_true rfl, Nat.le_of_ble_eq_true rfl⟩) (Wd.rec hK hW (by decide) cX_0 (ci := 4) rfl) hx hb hml hown hB hK hW hS ⟨Nat.le_of_ble_eq_true rfl, Nat.le_of_ble_eq_true rfl⟩ rfl hl.1 rfl (Nat.le_of_ble_eq_true rfl) dL_appeal_4 [⟨0, 9, 12, 13⟩] ⟨0, 9, 15, 17⟩ [] (htab.trans rfl) (by
    intro z hz
    rcases List.mem_cons.mp hz with rfl | hz
    · exact ⟨by decide, "java/lang/IndexOutOfBoundsException", q_704, by decide⟩
    exact nomatch hz) (by decide) (by decide) q_706 nwc_3 (hpc := 15) rfl (fun H locs q9 hW hS => ?_)
  refine lv_astore_n (lv' := [(3, .ref q9), (0, rf E 0), (1, .int a0), (2, rf E 217)]) hx hb dL_appeal_15 rfl hl (by decide) rfl (fun ls hl => ?_)
  refine lv_iconst (v := 2) hx hb dL_appeal_16 (by decide) ?_
  exact e_iw (Nat.le_refl _) (Nat.le_refl _) hx hb hr hlk hW hS dL_appeal_17
set_option maxRecDepth 100000 in
set_option maxHeartbeats 4000000 in
theorem wn_judge (l : Launch) (E : TE) (x m : XS) (g o : Int64) {a0 : Int32} {a1 : Int32} {r : Int32} {xr : XS} (hf : f_X4_judge x a0 a1 = some (r, xr)) : MW l E yL_judge cL_judge 5 [(0, 10, 13, 13), (0, 10, 17, 17)] 9 [rf E 0, .int a0, .int a1, rf E 217] (Wd E x m g o) (Wd E xr m g r.toInt64) (some (.int 0)) := by
  refine w_in (by decide) (Nat.le_of_ble_eq_true rfl) ?_
  intro p e s mi args below meth c H ls hx hb hr hlk htab hml hown hB hK hW hS hl
  have hl : lv_has ls 5 [(0, rf E 0), (1, .int a0), (2, .int a1), (3, rf E 217)] := hl
  refine lv_aload_n hx hb dL_judge_0 rfl (lv_at hl 3 rfl) ?_
  refine lv_iconst (v := 0) hx hb dL_judge_1 (by decide) ?_
  refine lv_aload_n hx hb dL_judge_2 rfl (lv_at hl 0 rfl) ?_
  refine lv_iload_n hx hb dL_judge_3 rfl (lv_at hl 1 rfl) ?_
  refine lv_iload_n hx hb dL_judge_4 rfl (lv_at hl 2 rfl) ?_
  refine c_V (As := [.int a0, .int a1]) (st1 := [.int r, .int 0, rf E 217]) (rest := [.int 0, rf E 217]) (p_X4_judge l E x m g o hf) (kw_40 hB ⟨Nat.le_of_ble_eq_true rfl, Nat.le_of_ble_eq_true rfl⟩) (Wd.rec hK hW (by decide) cX_0 (ci := 4) rfl) hx hb hml hown hB hK hW hS ⟨Nat.zero_le _, Nat.zero_le _⟩ rfl hl.1 rfl (Nat.le_of_ble_eq_true rfl) rfl dL_judge_5 (fun H locs hW hS => ?_)
  refine lv_i2l hx hb dL_judge_8 rfl ?_
  refine r_last hx hb hK hW hS dL_judge_9 (fun H locs hW hS => ?_)
  refine lv_goto (tgt := 21) hx hb dL_judge_10 (by decide) ?_
  refine lv_iconst (v := 0) hx hb dL_judge_21 (by decide) ?_
  exact e_iw (Nat.zero_le _) (Nat.zero_le _) hx hb hr hlk hW hS dL_judge_22
set_option maxRecDepth 100000 in
set_option maxHeartbeats 4000000 in
theorem wt_judge_1 (l : Launch) (hst : l.stackTraces = false) (E : TE) (x m : XS) (g o : Int64) {a0 : Int32} {a1 : Int32} (hf : t_X4_judge x a0 a1 = some 1) : MW l E yL_judge cL_judge 5 [(0, 10, 13, 13), (0, 10, 17, 17)] 9 [rf E 0, .int a0, .int a1, rf E 217] (Wd E x m g o) (Wd E x m g o) (some (.int 1)) := by
  refine w_in (by decide) (Nat.le_of_ble_eq_true rfl) ?_
  intro p e s mi args below meth c H ls hx hb hr hlk htab hml hown hB hK hW hS hl
  have hl : lv_has ls 5 [(0, rf E 0), (1, .int a0), (2, .int a1), (3, rf E 217)] := hl
  have hM : MT l E yX4_judge cX4_judge 3 (some .int) 7 [rf E 0, .int a0, .int a1] (Wd E x m g o) "java/lang/IndexOutOfBoundsException" := tp_X4_judge l hst E x m g o hf
  refine lv_aload_n hx hb dL_judge_0 rfl (lv_at hl 3 rfl) ?_
  refine lv_iconst (v := 0) hx hb dL_judge_1 (by decide) ?_
  refine lv_aload_n hx hb dL_judge_2 rfl (lv_at hl 0 rfl) ?_
  refine lv_iload_n hx hb dL_judge_3 rfl (lv_at hl 1 rfl) ?_
  refine lv_iload_n hx hb dL_judge_4 rfl (lv_at hl 2 rfl) ?_
  refine c_VT (As := [.int a0, .int a1]) (rest := [.int 0, rf E 217]) hM (kwT_40 hB ⟨Nat.le_of_ble_eq_true rfl, Nat.le_of_ble_eq_true rfl⟩) (Wd.rec hK hW (by decide) cX_0 (ci := 4) rfl) hx hb hml hown hB hK hW hS ⟨Nat.le_of_ble_eq_true rfl, Nat.le_of_ble_eq_true rfl⟩ rfl hl.1 rfl (Nat.le_of_ble_eq_true rfl) dL_judge_5 [] ⟨0, 10, 13, 13⟩ [⟨0, 10, 17, 17⟩] (htab.trans rfl) (fun z hz => nomatch hz) (by decide) (by decide) q_704 nwc_1 (hpc := 13) rfl (fun H locs q9 hW hS => ?_)
  refine lv_astore (lv' := [(4, .ref q9), (0, rf E 0), (1, .int a0), (2, .int a1), (3, rf E 217)]) hx hb dL_judge_13 hl (by decide) rfl (fun ls hl => ?_)
  refine lv_iconst (v := 1) hx hb dL_judge_15 (by decide) ?_
  exact e_iw (Nat.le_refl _) (Nat.le_refl _) hx hb hr hlk hW hS dL_judge_16
set_option maxRecDepth 100000 in
set_option maxHeartbeats 4000000 in
theorem wt_judge_3 (l : Launch) (hst : l.stackTraces = false) (E : TE) (x m : XS) (g o : Int64) {a0 : Int32} {a1 : Int32} (hf : t_X4_judge x a0 a1 = some 3) : MW l E yL_judge cL_judge 5 [(0, 10, 13, 13), (0, 10, 17, 17)] 9 [rf E 0, .int a0, .int a1, rf E 217] (Wd E x m g o) (Wd E x m g o) (some (.int 2)) := by
  refine w_in (by decide) (Nat.le_of_ble_eq_true rfl) ?_
  intro p e s mi args below meth c H ls hx hb hr hlk htab hml hown hB hK hW hS hl
  have hl : lv_has ls 5 [(0, rf E 0), (1, .int a0), (2, .int a1), (3, rf E 217)] := hl
  have hM : MT l E yX4_judge cX4_judge 3 (some .int) 7 [rf E 0, .int a0, .int a1] (Wd E x m g o) "java/lang/IllegalStateException" := tp_X4_judge l hst E x m g o hf
  refine lv_aload_n hx hb dL_judge_0 rfl (lv_at hl 3 rfl) ?_
  refine lv_iconst (v := 0) hx hb dL_judge_1 (by decide) ?_
  refine lv_aload_n hx hb dL_judge_2 rfl (lv_at hl 0 rfl) ?_
  refine lv_iload_n hx hb dL_judge_3 rfl (lv_at hl 1 rfl) ?_
  refine lv_iload_n hx hb dL_judge_4 rfl (lv_at hl 2 rfl) ?_
  refine c_VT (As := [.int a0, .int a1]) (rest := [.int 0, rf E 217]) hM (kwT_40 hB ⟨Nat.le_of_ble_eq_true rfl, Nat.le_of_ble_eq_true rfl⟩) (Wd.rec hK hW (by decide) cX_0 (ci := 4) rfl) hx hb hml hown hB hK hW hS ⟨Nat.le_of_ble_eq_true rfl, Nat.le_of_ble_eq_true rfl⟩ rfl hl.1 rfl (Nat.le_of_ble_eq_true rfl) dL_judge_5 [⟨0, 10, 13, 13⟩] ⟨0, 10, 17, 17⟩ [] (htab.trans rfl) (by
    intro z hz
    rcases List.mem_cons.mp hz with rfl | hz
    · exact ⟨by decide, "java/lang/IndexOutOfBoundsException", q_704, by decide⟩
    exact nomatch hz) (by decide) (by decide) q_706 nwc_3 (hpc := 17) rfl (fun H locs q9 hW hS => ?_)
  refine lv_astore (lv' := [(4, .ref q9), (0, rf E 0), (1, .int a0), (2, .int a1), (3, rf E 217)]) hx hb dL_judge_17 hl (by decide) rfl (fun ls hl => ?_)
  refine lv_iconst (v := 2) hx hb dL_judge_19 (by decide) ?_
  exact e_iw (Nat.le_refl _) (Nat.le_refl _) hx hb hr hlk hW hS dL_judge_20
set_option maxRecDepth 100000 in
set_option maxHeartbeats 4000000 in
theorem wn_closeMonth (l : Launch) (E : TE) (x m : XS) (g o : Int64) {r : Int32} {xr : XS} (hf : f_X4_closeMonth x = some (r, xr)) : MW l E yL_closeMonth cL_closeMonth 3 [(0, 8, 11, 17)] 9 [rf E 0, rf E 217] (Wd E x m g o) (Wd E xr m g r.toInt64) (some (.int 0)) := by
  refine w_in (by decide) (Nat.le_of_ble_eq_true rfl) ?_
  intro p e s mi args below meth c H ls hx hb hr hlk htab hml hown hB hK hW hS hl
  have hl : lv_has ls 3 [(0, rf E 0), (1, rf E 217)] := hl
  refine lv_aload_n hx hb dL_closeMonth_0 rfl (lv_at hl 1 rfl) ?_
  refine lv_iconst (v := 0) hx hb dL_closeMonth_1 (by decide) ?_
  refine lv_aload_n hx hb dL_closeMonth_2 rfl (lv_at hl 0 rfl) ?_
  refine c_V (As := []) (st1 := [.int r, .int 0, rf E 217]) (rest := [.int 0, rf E 217]) (p_X4_closeMonth l E x m g o hf) (kw_43 hB ⟨Nat.le_of_ble_eq_true rfl, Nat.le_of_ble_eq_true rfl⟩) (Wd.rec hK hW (by decide) cX_0 (ci := 4) rfl) hx hb hml hown hB hK hW hS ⟨Nat.zero_le _, Nat.zero_le _⟩ rfl hl.1 rfl (Nat.le_of_ble_eq_true rfl) rfl dL_closeMonth_3 (fun H locs hW hS => ?_)
  refine lv_i2l hx hb dL_closeMonth_6 rfl ?_
  refine r_last hx hb hK hW hS dL_closeMonth_7 (fun H locs hW hS => ?_)
  refine lv_goto (tgt := 14) hx hb dL_closeMonth_8 (by decide) ?_
  refine lv_iconst (v := 0) hx hb dL_closeMonth_14 (by decide) ?_
  exact e_iw (Nat.zero_le _) (Nat.zero_le _) hx hb hr hlk hW hS dL_closeMonth_15
set_option maxRecDepth 100000 in
set_option maxHeartbeats 4000000 in
theorem wt_closeMonth_3 (l : Launch) (hst : l.stackTraces = false) (E : TE) (x m : XS) (g o : Int64) (hf : t_X4_closeMonth x = some 3) : MW l E yL_closeMonth cL_closeMonth 3 [(0, 8, 11, 17)] 9 [rf E 0, rf E 217] (Wd E x m g o) (Wd E x m g o) (some (.int 1)) := by
  refine w_in (by decide) (Nat.le_of_ble_eq_true rfl) ?_
  intro p e s mi args below meth c H ls hx hb hr hlk htab hml hown hB hK hW hS hl
  have hl : lv_has ls 3 [(0, rf E 0), (1, rf E 217)] := hl
  have hM : MT l E yX4_closeMonth cX4_closeMonth 1 (some .int) 7 [rf E 0] (Wd E x m g o) "java/lang/IllegalStateException" := tp_X4_closeMonth l hst E x m g o hf
  refine lv_aload_n hx hb dL_closeMonth_0 rfl (lv_at hl 1 rfl) ?_
  refine lv_iconst (v := 0) hx hb dL_closeMonth_1 (by decide) ?_
  refine lv_aload_n hx hb dL_closeMonth_2 rfl (lv_at hl 0 rfl) ?_
  refine c_VT (As := []) (rest := [.int 0, rf E 217]) hM (kwT_43 hB ⟨Nat.le_of_ble_eq_true rfl, Nat.le_of_ble_eq_true rfl⟩) (Wd.rec hK hW (by decide) cX_0 (ci := 4) rfl) hx hb hml hown hB hK hW hS ⟨Nat.le_of_ble_eq_true rfl, Nat.le_of_ble_eq_true rfl⟩ rfl hl.1 rfl (Nat.le_of_ble_eq_true rfl) dL_closeMonth_3 [] ⟨0, 8, 11, 17⟩ [] (htab.trans rfl) (fun z hz => nomatch hz) (by decide) (by decide) q_706 nwc_3 (hpc := 11) rfl (fun H locs q9 hW hS => ?_)
  refine lv_astore_n (lv' := [(2, .ref q9), (0, rf E 0), (1, rf E 217)]) hx hb dL_closeMonth_11 rfl hl (by decide) rfl (fun ls hl => ?_)
  refine lv_iconst (v := 1) hx hb dL_closeMonth_12 (by decide) ?_
  exact e_iw (Nat.le_refl _) (Nat.le_refl _) hx hb hr hlk hW hS dL_closeMonth_13
set_option maxRecDepth 100000 in
set_option maxHeartbeats 4000000 in
theorem wn_append (l : Launch) (E : TE) (x m : XS) (g o : Int64) {a0 : Int32} {r : Int32} {xr : XS} (hf : f_X4_append x a0 = some (r, xr)) : MW l E yL_append cL_append 4 [(0, 9, 12, 15), (0, 9, 15, 17)] 9 [rf E 0, .int a0, rf E 217] (Wd E x m g o) (Wd E xr m g r.toInt64) (some (.int 0)) := by
  refine w_in (by decide) (Nat.le_of_ble_eq_true rfl) ?_
  intro p e s mi args below meth c H ls hx hb hr hlk htab hml hown hB hK hW hS hl
  have hl : lv_has ls 4 [(0, rf E 0), (1, .int a0), (2, rf E 217)] := hl
  refine lv_aload_n hx hb dL_append_0 rfl (lv_at hl 2 rfl) ?_
  refine lv_iconst (v := 0) hx hb dL_append_1 (by decide) ?_
  refine lv_aload_n hx hb dL_append_2 rfl (lv_at hl 0 rfl) ?_
  refine lv_iload_n hx hb dL_append_3 rfl (lv_at hl 1 rfl) ?_
  refine c_V (As := [.int a0]) (st1 := [.int r, .int 0, rf E 217]) (rest := [.int 0, rf E 217]) (p_X4_append l E x m g o hf) (kw_47 hB ⟨Nat.le_of_ble_eq_true rfl, Nat.le_of_ble_eq_true rfl⟩) (Wd.rec hK hW (by decide) cX_0 (ci := 4) rfl) hx hb hml hown hB hK hW hS ⟨Nat.zero_le _, Nat.zero_le _⟩ rfl hl.1 rfl (Nat.le_of_ble_eq_true rfl) rfl dL_append_4 (fun H locs hW hS => ?_)
  refine lv_i2l hx hb dL_append_7 rfl ?_
  refine r_last hx hb hK hW hS dL_append_8 (fun H locs hW hS => ?_)
  refine lv_goto (tgt := 18) hx hb dL_append_9 (by decide) ?_
  refine lv_iconst (v := 0) hx hb dL_append_18 (by decide) ?_
  exact e_iw (Nat.zero_le _) (Nat.zero_le _) hx hb hr hlk hW hS dL_append_19
set_option maxRecDepth 100000 in
set_option maxHeartbeats 4000000 in
theorem wt_append_2 (l : Launch) (hst : l.stackTraces = false) (E : TE) (x m : XS) (g o : Int64) {a0 : Int32} (hf : t_X4_append x a0 = some 2) : MW l E yL_append cL_append 4 [(0, 9, 12, 15), (0, 9, 15, 17)] 9 [rf E 0, .int a0, rf E 217] (Wd E x m g o) (Wd E x m g o) (some (.int 1)) := by
  refine w_in (by decide) (Nat.le_of_ble_eq_true rfl) ?_
  intro p e s mi args below meth c H ls hx hb hr hlk htab hml hown hB hK hW hS hl
  have hl : lv_has ls 4 [(0, rf E 0), (1, .int a0), (2, rf E 217)] := hl
  have hM : MT l E yX4_append cX4_append 2 (some .int) 7 [rf E 0, .int a0] (Wd E x m g o) "java/lang/IllegalArgumentException" := tp_X4_append l hst E x m g o hf
  refine lv_aload_n hx hb dL_append_0 rfl (lv_at hl 2 rfl) ?_
  refine lv_iconst (v := 0) hx hb dL_append_1 (by decide) ?_
  refine lv_aload_n hx hb dL_append_2 rfl (lv_at hl 0 rfl) ?_
  refine lv_iload_n hx hb dL_append_3 rfl (lv_at hl 1 rfl) ?_
  refine c_VT (As := [.int a0]) (rest := [.int 0, rf E 217]) hM (kwT_47 hB ⟨Nat.le_of_ble_eq_true rfl, Nat.le_of_ble_eq_true rfl⟩) (Wd.rec hK hW (by decide) cX_0 (ci := 4) rfl) hx hb hml hown hB hK hW hS ⟨Nat.le_of_ble_eq_true rfl, Nat.le_of_ble_eq_true rfl⟩ rfl hl.1 rfl (Nat.le_of_ble_eq_true rfl) dL_append_4 [] ⟨0, 9, 12, 15⟩ [⟨0, 9, 15, 17⟩] (htab.trans rfl) (fun z hz => nomatch hz) (by decide) (by decide) q_705 nwc_2 (hpc := 12) rfl (fun H locs q9 hW hS => ?_)
  refine lv_astore_n (lv' := [(3, .ref q9), (0, rf E 0), (1, .int a0), (2, rf E 217)]) hx hb dL_append_12 rfl hl (by decide) rfl (fun ls hl => ?_)
  refine lv_iconst (v := 1) hx hb dL_append_13 (by decide) ?_
  exact e_iw (Nat.le_refl _) (Nat.le_refl _) hx hb hr hlk hW hS dL_append_14
set_option maxRecDepth 100000 in
set_option maxHeartbeats 4000000 in
theorem wt_append_3 (l : Launch) (hst : l.stackTraces = false) (E : TE) (x m : XS) (g o : Int64) {a0 : Int32} (hf : t_X4_append x a0 = some 3) : MW l E yL_append cL_append 4 [(0, 9, 12, 15), (0, 9, 15, 17)] 9 [rf E 0, .int a0, rf E 217] (Wd E x m g o) (Wd E x m g o) (some (.int 2)) := by
  refine w_in (by decide) (Nat.le_of_ble_eq_true rfl) ?_
  intro p e s mi args below meth c H ls hx hb hr hlk htab hml hown hB hK hW hS hl
  have hl : lv_has ls 4 [(0, rf E 0), (1, .int a0), (2, rf E 217)] := hl
  have hM : MT l E yX4_append cX4_append 2 (some .int) 7 [rf E 0, .int a0] (Wd E x m g o) "java/lang/IllegalStateException" := tp_X4_append l hst E x m g o hf
  refine lv_aload_n hx hb dL_append_0 rfl (lv_at hl 2 rfl) ?_
  refine lv_iconst (v := 0) hx hb dL_append_1 (by decide) ?_
  refine lv_aload_n hx hb dL_append_2 rfl (lv_at hl 0 rfl) ?_
  refine lv_iload_n hx hb dL_append_3 rfl (lv_at hl 1 rfl) ?_
  refine c_VT (As := [.int a0]) (rest := [.int 0, rf E 217]) hM (kwT_47 hB ⟨Nat.le_of_ble_eq_true rfl, Nat.le_of_ble_eq_true rfl⟩) (Wd.rec hK hW (by decide) cX_0 (ci := 4) rfl) hx hb hml hown hB hK hW hS ⟨Nat.le_of_ble_eq_true rfl, Nat.le_of_ble_eq_true rfl⟩ rfl hl.1 rfl (Nat.le_of_ble_eq_true rfl) dL_append_4 [⟨0, 9, 12, 15⟩] ⟨0, 9, 15, 17⟩ [] (htab.trans rfl) (by
    intro z hz
    rcases List.mem_cons.mp hz with rfl | hz
    · exact ⟨by decide, "java/lang/IllegalArgumentException", q_705, by decide⟩
    exact nomatch hz) (by decide) (by decide) q_706 nwc_3 (hpc := 15) rfl (fun H locs q9 hW hS => ?_)
  refine lv_astore_n (lv' := [(3, .ref q9), (0, rf E 0), (1, .int a0), (2, rf E 217)]) hx hb dL_append_15 rfl hl (by decide) rfl (fun ls hl => ?_)
  refine lv_iconst (v := 2) hx hb dL_append_16 (by decide) ?_
  exact e_iw (Nat.le_refl _) (Nat.le_refl _) hx hb hr hlk hW hS dL_append_17
set_option maxRecDepth 100000 in
set_option maxHeartbeats 4000000 in
theorem wn_complainAll (l : Launch) (E : TE) (x m : XS) (g o : Int64) {r : Int32} {xr : XS} (hf : f_X4_complainAll x = some (r, xr)) : MW l E yL_complainAll cL_complainAll 3 [(0, 8, 11, 15), (0, 8, 14, 17)] 9 [rf E 0, rf E 217] (Wd E x m g o) (Wd E xr m g r.toInt64) (some (.int 0)) := by
  refine w_in (by decide) (Nat.le_of_ble_eq_true rfl) ?_
  intro p e s mi args below meth c H ls hx hb hr hlk htab hml hown hB hK hW hS hl
  have hl : lv_has ls 3 [(0, rf E 0), (1, rf E 217)] := hl
  refine lv_aload_n hx hb dL_complainAll_0 rfl (lv_at hl 1 rfl) ?_
  refine lv_iconst (v := 0) hx hb dL_complainAll_1 (by decide) ?_
  refine lv_aload_n hx hb dL_complainAll_2 rfl (lv_at hl 0 rfl) ?_
  refine c_V (As := []) (st1 := [.int r, .int 0, rf E 217]) (rest := [.int 0, rf E 217]) (p_X4_complainAll l E x m g o hf) (kw_50 hB ⟨Nat.le_of_ble_eq_true rfl, Nat.le_of_ble_eq_true rfl⟩) (Wd.rec hK hW (by decide) cX_0 (ci := 4) rfl) hx hb hml hown hB hK hW hS ⟨Nat.zero_le _, Nat.zero_le _⟩ rfl hl.1 rfl (Nat.le_of_ble_eq_true rfl) rfl dL_complainAll_3 (fun H locs hW hS => ?_)
  refine lv_i2l hx hb dL_complainAll_6 rfl ?_
  refine r_last hx hb hK hW hS dL_complainAll_7 (fun H locs hW hS => ?_)
  refine lv_goto (tgt := 17) hx hb dL_complainAll_8 (by decide) ?_
  refine lv_iconst (v := 0) hx hb dL_complainAll_17 (by decide) ?_
  exact e_iw (Nat.zero_le _) (Nat.zero_le _) hx hb hr hlk hW hS dL_complainAll_18
set_option maxRecDepth 100000 in
set_option maxHeartbeats 4000000 in
theorem wt_complainAll_2 (l : Launch) (hst : l.stackTraces = false) (E : TE) (x m : XS) (g o : Int64) (hf : t_X4_complainAll x = some 2) : MW l E yL_complainAll cL_complainAll 3 [(0, 8, 11, 15), (0, 8, 14, 17)] 9 [rf E 0, rf E 217] (Wd E x m g o) (Wd E x m g o) (some (.int 1)) := by
  refine w_in (by decide) (Nat.le_of_ble_eq_true rfl) ?_
  intro p e s mi args below meth c H ls hx hb hr hlk htab hml hown hB hK hW hS hl
  have hl : lv_has ls 3 [(0, rf E 0), (1, rf E 217)] := hl
  have hM : MT l E yX4_complainAll cX4_complainAll 4 (some .int) 7 [rf E 0] (Wd E x m g o) "java/lang/IllegalArgumentException" := tp_X4_complainAll l hst E x m g o hf
  refine lv_aload_n hx hb dL_complainAll_0 rfl (lv_at hl 1 rfl) ?_
  refine lv_iconst (v := 0) hx hb dL_complainAll_1 (by decide) ?_
  refine lv_aload_n hx hb dL_complainAll_2 rfl (lv_at hl 0 rfl) ?_
  refine c_VT (As := []) (rest := [.int 0, rf E 217]) hM (kwT_50 hB ⟨Nat.le_of_ble_eq_true rfl, Nat.le_of_ble_eq_true rfl⟩) (Wd.rec hK hW (by decide) cX_0 (ci := 4) rfl) hx hb hml hown hB hK hW hS ⟨Nat.le_of_ble_eq_true rfl, Nat.le_of_ble_eq_true rfl⟩ rfl hl.1 rfl (Nat.le_of_ble_eq_true rfl) dL_complainAll_3 [] ⟨0, 8, 11, 15⟩ [⟨0, 8, 14, 17⟩] (htab.trans rfl) (fun z hz => nomatch hz) (by decide) (by decide) q_705 nwc_2 (hpc := 11) rfl (fun H locs q9 hW hS => ?_)
  refine lv_astore_n (lv' := [(2, .ref q9), (0, rf E 0), (1, rf E 217)]) hx hb dL_complainAll_11 rfl hl (by decide) rfl (fun ls hl => ?_)
  refine lv_iconst (v := 1) hx hb dL_complainAll_12 (by decide) ?_
  exact e_iw (Nat.le_refl _) (Nat.le_refl _) hx hb hr hlk hW hS dL_complainAll_13
set_option maxRecDepth 100000 in
set_option maxHeartbeats 4000000 in
theorem wt_complainAll_3 (l : Launch) (hst : l.stackTraces = false) (E : TE) (x m : XS) (g o : Int64) (hf : t_X4_complainAll x = some 3) : MW l E yL_complainAll cL_complainAll 3 [(0, 8, 11, 15), (0, 8, 14, 17)] 9 [rf E 0, rf E 217] (Wd E x m g o) (Wd E x m g o) (some (.int 2)) := by
  refine w_in (by decide) (Nat.le_of_ble_eq_true rfl) ?_
  intro p e s mi args below meth c H ls hx hb hr hlk htab hml hown hB hK hW hS hl
  have hl : lv_has ls 3 [(0, rf E 0), (1, rf E 217)] := hl
  have hM : MT l E yX4_complainAll cX4_complainAll 4 (some .int) 7 [rf E 0] (Wd E x m g o) "java/lang/IllegalStateException" := tp_X4_complainAll l hst E x m g o hf
  refine lv_aload_n hx hb dL_complainAll_0 rfl (lv_at hl 1 rfl) ?_
  refine lv_iconst (v := 0) hx hb dL_complainAll_1 (by decide) ?_
  refine lv_aload_n hx hb dL_complainAll_2 rfl (lv_at hl 0 rfl) ?_
  refine c_VT (As := []) (rest := [.int 0, rf E 217]) hM (kwT_50 hB ⟨Nat.le_of_ble_eq_true rfl, Nat.le_of_ble_eq_true rfl⟩) (Wd.rec hK hW (by decide) cX_0 (ci := 4) rfl) hx hb hml hown hB hK hW hS ⟨Nat.le_of_ble_eq_true rfl, Nat.le_of_ble_eq_true rfl⟩ rfl hl.1 rfl (Nat.le_of_ble_eq_true rfl) dL_complainAll_3 [⟨0, 8, 11, 15⟩] ⟨0, 8, 14, 17⟩ [] (htab.trans rfl) (by
    intro z hz
    rcases List.mem_cons.mp hz with rfl | hz
    · exact ⟨by decide, "java/lang/IllegalArgumentException", q_705, by decide⟩
    exact nomatch hz) (by decide) (by decide) q_706 nwc_3 (hpc := 14) rfl (fun H locs q9 hW hS => ?_)
  refine lv_astore_n (lv' := [(2, .ref q9), (0, rf E 0), (1, rf E 217)]) hx hb dL_complainAll_14 rfl hl (by decide) rfl (fun ls hl => ?_)
  refine lv_iconst (v := 2) hx hb dL_complainAll_15 (by decide) ?_
  exact e_iw (Nat.le_refl _) (Nat.le_refl _) hx hb hr hlk hW hS dL_complainAll_16
set_option maxRecDepth 100000 in
set_option maxHeartbeats 4000000 in
theorem wn_undo (l : Launch) (E : TE) (x m : XS) (g o : Int64) {r : Int32} {xr : XS} (hf : f_X4_undo x = some (r, xr)) : MW l E yL_undo cL_undo 3 [(0, 8, 11, 17)] 9 [rf E 0, rf E 217] (Wd E x m g o) (Wd E xr m g r.toInt64) (some (.int 0)) := by
  refine w_in (by decide) (Nat.le_of_ble_eq_true rfl) ?_
  intro p e s mi args below meth c H ls hx hb hr hlk htab hml hown hB hK hW hS hl
  have hl : lv_has ls 3 [(0, rf E 0), (1, rf E 217)] := hl
  refine lv_aload_n hx hb dL_undo_0 rfl (lv_at hl 1 rfl) ?_
  refine lv_iconst (v := 0) hx hb dL_undo_1 (by decide) ?_
  refine lv_aload_n hx hb dL_undo_2 rfl (lv_at hl 0 rfl) ?_
  refine c_V (As := []) (st1 := [.int r, .int 0, rf E 217]) (rest := [.int 0, rf E 217]) (p_X4_undo l E x m g o hf) (kw_53 hB ⟨Nat.le_of_ble_eq_true rfl, Nat.le_of_ble_eq_true rfl⟩) (Wd.rec hK hW (by decide) cX_0 (ci := 4) rfl) hx hb hml hown hB hK hW hS ⟨Nat.zero_le _, Nat.zero_le _⟩ rfl hl.1 rfl (Nat.le_of_ble_eq_true rfl) rfl dL_undo_3 (fun H locs hW hS => ?_)
  refine lv_i2l hx hb dL_undo_6 rfl ?_
  refine r_last hx hb hK hW hS dL_undo_7 (fun H locs hW hS => ?_)
  refine lv_goto (tgt := 14) hx hb dL_undo_8 (by decide) ?_
  refine lv_iconst (v := 0) hx hb dL_undo_14 (by decide) ?_
  exact e_iw (Nat.zero_le _) (Nat.zero_le _) hx hb hr hlk hW hS dL_undo_15
set_option maxRecDepth 100000 in
set_option maxHeartbeats 4000000 in
theorem wt_undo_3 (l : Launch) (hst : l.stackTraces = false) (E : TE) (x m : XS) (g o : Int64) (hf : t_X4_undo x = some 3) : MW l E yL_undo cL_undo 3 [(0, 8, 11, 17)] 9 [rf E 0, rf E 217] (Wd E x m g o) (Wd E x m g o) (some (.int 1)) := by
  refine w_in (by decide) (Nat.le_of_ble_eq_true rfl) ?_
  intro p e s mi args below meth c H ls hx hb hr hlk htab hml hown hB hK hW hS hl
  have hl : lv_has ls 3 [(0, rf E 0), (1, rf E 217)] := hl
  have hM : MT l E yX4_undo cX4_undo 1 (some .int) 7 [rf E 0] (Wd E x m g o) "java/lang/IllegalStateException" := tp_X4_undo l hst E x m g o hf
  refine lv_aload_n hx hb dL_undo_0 rfl (lv_at hl 1 rfl) ?_
  refine lv_iconst (v := 0) hx hb dL_undo_1 (by decide) ?_
  refine lv_aload_n hx hb dL_undo_2 rfl (lv_at hl 0 rfl) ?_
  refine c_VT (As := []) (rest := [.int 0, rf E 217]) hM (kwT_53 hB ⟨Nat.le_of_ble_eq_true rfl, Nat.le_of_ble_eq_true rfl⟩) (Wd.rec hK hW (by decide) cX_0 (ci := 4) rfl) hx hb hml hown hB hK hW hS ⟨Nat.le_of_ble_eq_true rfl, Nat.le_of_ble_eq_true rfl⟩ rfl hl.1 rfl (Nat.le_of_ble_eq_true rfl) dL_undo_3 [] ⟨0, 8, 11, 17⟩ [] (htab.trans rfl) (fun z hz => nomatch hz) (by decide) (by decide) q_706 nwc_3 (hpc := 11) rfl (fun H locs q9 hW hS => ?_)
  refine lv_astore_n (lv' := [(2, .ref q9), (0, rf E 0), (1, rf E 217)]) hx hb dL_undo_11 rfl hl (by decide) rfl (fun ls hl => ?_)
  refine lv_iconst (v := 1) hx hb dL_undo_12 (by decide) ?_
  exact e_iw (Nat.le_refl _) (Nat.le_refl _) hx hb hr hlk hW hS dL_undo_13
set_option maxRecDepth 100000 in
set_option maxHeartbeats 4000000 in
theorem wn_complaint (l : Launch) (E : TE) (x m : XS) (g o : Int64) {a0 : Int32} {a1 : Int32} {r : Int32} (hf : f_X4_complaint x a0 a1 = some r) : MW l E yL_complaint cL_complaint 5 [(0, 10, 13, 13), (0, 10, 17, 15)] 9 [rf E 0, .int a0, .int a1, rf E 217] (Wd E x m g o) (Wd E x m g r.toInt64) (some (.int 0)) := by
  refine w_in (by decide) (Nat.le_of_ble_eq_true rfl) ?_
  intro p e s mi args below meth c H ls hx hb hr hlk htab hml hown hB hK hW hS hl
  have hl : lv_has ls 5 [(0, rf E 0), (1, .int a0), (2, .int a1), (3, rf E 217)] := hl
  refine lv_aload_n hx hb dL_complaint_0 rfl (lv_at hl 3 rfl) ?_
  refine lv_iconst (v := 0) hx hb dL_complaint_1 (by decide) ?_
  refine lv_aload_n hx hb dL_complaint_2 rfl (lv_at hl 0 rfl) ?_
  refine lv_iload_n hx hb dL_complaint_3 rfl (lv_at hl 1 rfl) ?_
  refine lv_iload_n hx hb dL_complaint_4 rfl (lv_at hl 2 rfl) ?_
  refine c_V (As := [.int a0, .int a1]) (st1 := [.int r, .int 0, rf E 217]) (rest := [.int 0, rf E 217]) (p_X4_complaint l E x m g o hf) (kw_56 hB ⟨Nat.le_of_ble_eq_true rfl, Nat.le_of_ble_eq_true rfl⟩) (Wd.rec hK hW (by decide) cX_0 (ci := 4) rfl) hx hb hml hown hB hK hW hS ⟨Nat.zero_le _, Nat.zero_le _⟩ rfl hl.1 rfl (Nat.le_of_ble_eq_true rfl) rfl dL_complaint_5 (fun H locs hW hS => ?_)
  refine lv_i2l hx hb dL_complaint_8 rfl ?_
  refine r_last hx hb hK hW hS dL_complaint_9 (fun H locs hW hS => ?_)
  refine lv_goto (tgt := 21) hx hb dL_complaint_10 (by decide) ?_
  refine lv_iconst (v := 0) hx hb dL_complaint_21 (by decide) ?_
  exact e_iw (Nat.zero_le _) (Nat.zero_le _) hx hb hr hlk hW hS dL_complaint_22
set_option maxRecDepth 100000 in
set_option maxHeartbeats 4000000 in
theorem wt_complaint_1 (l : Launch) (hst : l.stackTraces = false) (E : TE) (x m : XS) (g o : Int64) {a0 : Int32} {a1 : Int32} (hf : t_X4_complaint x a0 a1 = some 1) : MW l E yL_complaint cL_complaint 5 [(0, 10, 13, 13), (0, 10, 17, 15)] 9 [rf E 0, .int a0, .int a1, rf E 217] (Wd E x m g o) (Wd E x m g o) (some (.int 1)) := by
  refine w_in (by decide) (Nat.le_of_ble_eq_true rfl) ?_
  intro p e s mi args below meth c H ls hx hb hr hlk htab hml hown hB hK hW hS hl
  have hl : lv_has ls 5 [(0, rf E 0), (1, .int a0), (2, .int a1), (3, rf E 217)] := hl
  have hM : MT l E yX4_complaint cX4_complaint 3 (some .int) 7 [rf E 0, .int a0, .int a1] (Wd E x m g o) "java/lang/IndexOutOfBoundsException" := tp_X4_complaint l hst E x m g o hf
  refine lv_aload_n hx hb dL_complaint_0 rfl (lv_at hl 3 rfl) ?_
  refine lv_iconst (v := 0) hx hb dL_complaint_1 (by decide) ?_
  refine lv_aload_n hx hb dL_complaint_2 rfl (lv_at hl 0 rfl) ?_
  refine lv_iload_n hx hb dL_complaint_3 rfl (lv_at hl 1 rfl) ?_
  refine lv_iload_n hx hb dL_complaint_4 rfl (lv_at hl 2 rfl) ?_
  refine c_VT (As := [.int a0, .int a1]) (rest := [.int 0, rf E 217]) hM (kwT_56 hB ⟨Nat.le_of_ble_eq_true rfl, Nat.le_of_ble_eq_true rfl⟩) (Wd.rec hK hW (by decide) cX_0 (ci := 4) rfl) hx hb hml hown hB hK hW hS ⟨Nat.le_of_ble_eq_true rfl, Nat.le_of_ble_eq_true rfl⟩ rfl hl.1 rfl (Nat.le_of_ble_eq_true rfl) dL_complaint_5 [] ⟨0, 10, 13, 13⟩ [⟨0, 10, 17, 15⟩] (htab.trans rfl) (fun z hz => nomatch hz) (by decide) (by decide) q_704 nwc_1 (hpc := 13) rfl (fun H locs q9 hW hS => ?_)
  refine lv_astore (lv' := [(4, .ref q9), (0, rf E 0), (1, .int a0), (2, .int a1), (3, rf E 217)]) hx hb dL_complaint_13 hl (by decide) rfl (fun ls hl => ?_)
  refine lv_iconst (v := 1) hx hb dL_complaint_15 (by decide) ?_
  exact e_iw (Nat.le_refl _) (Nat.le_refl _) hx hb hr hlk hW hS dL_complaint_16
set_option maxRecDepth 100000 in
set_option maxHeartbeats 4000000 in
theorem wt_complaint_2 (l : Launch) (hst : l.stackTraces = false) (E : TE) (x m : XS) (g o : Int64) {a0 : Int32} {a1 : Int32} (hf : t_X4_complaint x a0 a1 = some 2) : MW l E yL_complaint cL_complaint 5 [(0, 10, 13, 13), (0, 10, 17, 15)] 9 [rf E 0, .int a0, .int a1, rf E 217] (Wd E x m g o) (Wd E x m g o) (some (.int 2)) := by
  refine w_in (by decide) (Nat.le_of_ble_eq_true rfl) ?_
  intro p e s mi args below meth c H ls hx hb hr hlk htab hml hown hB hK hW hS hl
  have hl : lv_has ls 5 [(0, rf E 0), (1, .int a0), (2, .int a1), (3, rf E 217)] := hl
  have hM : MT l E yX4_complaint cX4_complaint 3 (some .int) 7 [rf E 0, .int a0, .int a1] (Wd E x m g o) "java/lang/IllegalArgumentException" := tp_X4_complaint l hst E x m g o hf
  refine lv_aload_n hx hb dL_complaint_0 rfl (lv_at hl 3 rfl) ?_
  refine lv_iconst (v := 0) hx hb dL_complaint_1 (by decide) ?_
  refine lv_aload_n hx hb dL_complaint_2 rfl (lv_at hl 0 rfl) ?_
  refine lv_iload_n hx hb dL_complaint_3 rfl (lv_at hl 1 rfl) ?_
  refine lv_iload_n hx hb dL_complaint_4 rfl (lv_at hl 2 rfl) ?_
  refine c_VT (As := [.int a0, .int a1]) (rest := [.int 0, rf E 217]) hM (kwT_56 hB ⟨Nat.le_of_ble_eq_true rfl, Nat.le_of_ble_eq_true rfl⟩) (Wd.rec hK hW (by decide) cX_0 (ci := 4) rfl) hx hb hml hown hB hK hW hS ⟨Nat.le_of_ble_eq_true rfl, Nat.le_of_ble_eq_true rfl⟩ rfl hl.1 rfl (Nat.le_of_ble_eq_true rfl) dL_complaint_5 [⟨0, 10, 13, 13⟩] ⟨0, 10, 17, 15⟩ [] (htab.trans rfl) (by
    intro z hz
    rcases List.mem_cons.mp hz with rfl | hz
    · exact ⟨by decide, "java/lang/IndexOutOfBoundsException", q_704, by decide⟩
    exact nomatch hz) (by decide) (by decide) q_705 nwc_2 (hpc := 17) rfl (fun H locs q9 hW hS => ?_)
  refine lv_astore (lv' := [(4, .ref q9), (0, rf E 0), (1, .int a0), (2, .int a1), (3, rf E 217)]) hx hb dL_complaint_17 hl (by decide) rfl (fun ls hl => ?_)
  refine lv_iconst (v := 2) hx hb dL_complaint_19 (by decide) ?_
  exact e_iw (Nat.le_refl _) (Nat.le_refl _) hx hb hr hlk hW hS dL_complaint_20
set_option maxRecDepth 100000 in
set_option maxHeartbeats 4000000 in
theorem wn_amends (l : Launch) (E : TE) (x m : XS) (g o : Int64) {a0 : Int32} {a1 : Int32} {a2 : Int32} {r : Int32} (hf : f_X4_amends x a0 a1 a2 = some r) : MW l E yL_amends cL_amends 6 [(0, 12, 15, 13), (0, 12, 19, 15)] 9 [rf E 0, .int a0, .int a1, .int a2, rf E 217] (Wd E x m g o) (Wd E x m g r.toInt64) (some (.int 0)) := by
  refine w_in (by decide) (Nat.le_of_ble_eq_true rfl) ?_
  intro p e s mi args below meth c H ls hx hb hr hlk htab hml hown hB hK hW hS hl
  have hl : lv_has ls 6 [(0, rf E 0), (1, .int a0), (2, .int a1), (3, .int a2), (4, rf E 217)] := hl
  refine lv_aload hx hb dL_amends_0 (lv_at hl 4 rfl) ?_
  refine lv_iconst (v := 0) hx hb dL_amends_2 (by decide) ?_
  refine lv_aload_n hx hb dL_amends_3 rfl (lv_at hl 0 rfl) ?_
  refine lv_iload_n hx hb dL_amends_4 rfl (lv_at hl 1 rfl) ?_
  refine lv_iload_n hx hb dL_amends_5 rfl (lv_at hl 2 rfl) ?_
  refine lv_iload_n hx hb dL_amends_6 rfl (lv_at hl 3 rfl) ?_
  refine c_V (As := [.int a0, .int a1, .int a2]) (st1 := [.int r, .int 0, rf E 217]) (rest := [.int 0, rf E 217]) (p_X4_amends l E x m g o hf) (kw_59 hB ⟨Nat.le_of_ble_eq_true rfl, Nat.le_of_ble_eq_true rfl⟩) (Wd.rec hK hW (by decide) cX_0 (ci := 4) rfl) hx hb hml hown hB hK hW hS ⟨Nat.zero_le _, Nat.zero_le _⟩ rfl hl.1 rfl (Nat.le_of_ble_eq_true rfl) rfl dL_amends_7 (fun H locs hW hS => ?_)
  refine lv_i2l hx hb dL_amends_10 rfl ?_
  refine r_last hx hb hK hW hS dL_amends_11 (fun H locs hW hS => ?_)
  refine lv_goto (tgt := 23) hx hb dL_amends_12 (by decide) ?_
  refine lv_iconst (v := 0) hx hb dL_amends_23 (by decide) ?_
  exact e_iw (Nat.zero_le _) (Nat.zero_le _) hx hb hr hlk hW hS dL_amends_24
set_option maxRecDepth 100000 in
set_option maxHeartbeats 4000000 in
theorem wt_amends_1 (l : Launch) (hst : l.stackTraces = false) (E : TE) (x m : XS) (g o : Int64) {a0 : Int32} {a1 : Int32} {a2 : Int32} (hf : t_X4_amends x a0 a1 a2 = some 1) : MW l E yL_amends cL_amends 6 [(0, 12, 15, 13), (0, 12, 19, 15)] 9 [rf E 0, .int a0, .int a1, .int a2, rf E 217] (Wd E x m g o) (Wd E x m g o) (some (.int 1)) := by
  refine w_in (by decide) (Nat.le_of_ble_eq_true rfl) ?_
  intro p e s mi args below meth c H ls hx hb hr hlk htab hml hown hB hK hW hS hl
  have hl : lv_has ls 6 [(0, rf E 0), (1, .int a0), (2, .int a1), (3, .int a2), (4, rf E 217)] := hl
  have hM : MT l E yX4_amends cX4_amends 4 (some .int) 7 [rf E 0, .int a0, .int a1, .int a2] (Wd E x m g o) "java/lang/IndexOutOfBoundsException" := tp_X4_amends l hst E x m g o hf
  refine lv_aload hx hb dL_amends_0 (lv_at hl 4 rfl) ?_
  refine lv_iconst (v := 0) hx hb dL_amends_2 (by decide) ?_
  refine lv_aload_n hx hb dL_amends_3 rfl (lv_at hl 0 rfl) ?_
  refine lv_iload_n hx hb dL_amends_4 rfl (lv_at hl 1 rfl) ?_
  refine lv_iload_n hx hb dL_amends_5 rfl (lv_at hl 2 rfl) ?_
  refine lv_iload_n hx hb dL_amends_6 rfl (lv_at hl 3 rfl) ?_
  refine c_VT (As := [.int a0, .int a1, .int a2]) (rest := [.int 0, rf E 217]) hM (kwT_59 hB ⟨Nat.le_of_ble_eq_true rfl, Nat.le_of_ble_eq_true rfl⟩) (Wd.rec hK hW (by decide) cX_0 (ci := 4) rfl) hx hb hml hown hB hK hW hS ⟨Nat.le_of_ble_eq_true rfl, Nat.le_of_ble_eq_true rfl⟩ rfl hl.1 rfl (Nat.le_of_ble_eq_true rfl) dL_amends_7 [] ⟨0, 12, 15, 13⟩ [⟨0, 12, 19, 15⟩] (htab.trans rfl) (fun z hz => nomatch hz) (by decide) (by decide) q_704 nwc_1 (hpc := 15) rfl (fun H locs q9 hW hS => ?_)
  refine lv_astore (lv' := [(5, .ref q9), (0, rf E 0), (1, .int a0), (2, .int a1), (3, .int a2), (4, rf E 217)]) hx hb dL_amends_15 hl (by decide) rfl (fun ls hl => ?_)
  refine lv_iconst (v := 1) hx hb dL_amends_17 (by decide) ?_
  exact e_iw (Nat.le_refl _) (Nat.le_refl _) hx hb hr hlk hW hS dL_amends_18
set_option maxRecDepth 100000 in
set_option maxHeartbeats 4000000 in
theorem wt_amends_2 (l : Launch) (hst : l.stackTraces = false) (E : TE) (x m : XS) (g o : Int64) {a0 : Int32} {a1 : Int32} {a2 : Int32} (hf : t_X4_amends x a0 a1 a2 = some 2) : MW l E yL_amends cL_amends 6 [(0, 12, 15, 13), (0, 12, 19, 15)] 9 [rf E 0, .int a0, .int a1, .int a2, rf E 217] (Wd E x m g o) (Wd E x m g o) (some (.int 2)) := by
  refine w_in (by decide) (Nat.le_of_ble_eq_true rfl) ?_
  intro p e s mi args below meth c H ls hx hb hr hlk htab hml hown hB hK hW hS hl
  have hl : lv_has ls 6 [(0, rf E 0), (1, .int a0), (2, .int a1), (3, .int a2), (4, rf E 217)] := hl
  have hM : MT l E yX4_amends cX4_amends 4 (some .int) 7 [rf E 0, .int a0, .int a1, .int a2] (Wd E x m g o) "java/lang/IllegalArgumentException" := tp_X4_amends l hst E x m g o hf
  refine lv_aload hx hb dL_amends_0 (lv_at hl 4 rfl) ?_
  refine lv_iconst (v := 0) hx hb dL_amends_2 (by decide) ?_
  refine lv_aload_n hx hb dL_amends_3 rfl (lv_at hl 0 rfl) ?_
  refine lv_iload_n hx hb dL_amends_4 rfl (lv_at hl 1 rfl) ?_
  refine lv_iload_n hx hb dL_amends_5 rfl (lv_at hl 2 rfl) ?_
  refine lv_iload_n hx hb dL_amends_6 rfl (lv_at hl 3 rfl) ?_
  refine c_VT (As := [.int a0, .int a1, .int a2]) (rest := [.int 0, rf E 217]) hM (kwT_59 hB ⟨Nat.le_of_ble_eq_true rfl, Nat.le_of_ble_eq_true rfl⟩) (Wd.rec hK hW (by decide) cX_0 (ci := 4) rfl) hx hb hml hown hB hK hW hS ⟨Nat.le_of_ble_eq_true rfl, Nat.le_of_ble_eq_true rfl⟩ rfl hl.1 rfl (Nat.le_of_ble_eq_true rfl) dL_amends_7 [⟨0, 12, 15, 13⟩] ⟨0, 12, 19, 15⟩ [] (htab.trans rfl) (by
    intro z hz
    rcases List.mem_cons.mp hz with rfl | hz
    · exact ⟨by decide, "java/lang/IndexOutOfBoundsException", q_704, by decide⟩
    exact nomatch hz) (by decide) (by decide) q_705 nwc_2 (hpc := 19) rfl (fun H locs q9 hW hS => ?_)
  refine lv_astore (lv' := [(5, .ref q9), (0, rf E 0), (1, .int a0), (2, .int a1), (3, .int a2), (4, rf E 217)]) hx hb dL_amends_19 hl (by decide) rfl (fun ls hl => ?_)
  refine lv_iconst (v := 2) hx hb dL_amends_21 (by decide) ?_
  exact e_iw (Nat.le_refl _) (Nat.le_refl _) hx hb hr hlk hW hS dL_amends_22
set_option maxRecDepth 100000 in
set_option maxHeartbeats 4000000 in
theorem wn_precedent (l : Launch) (E : TE) (x m : XS) (g o : Int64) {a0 : Int32} {a1 : Int32} {a2 : Int32} {r : Int32} (hf : f_X4_precedent x a0 a1 a2 = some r) : MW l E yL_precedent cL_precedent 6 [(0, 12, 15, 13), (0, 12, 19, 15)] 9 [rf E 0, .int a0, .int a1, .int a2, rf E 217] (Wd E x m g o) (Wd E x m g r.toInt64) (some (.int 0)) := by
  refine w_in (by decide) (Nat.le_of_ble_eq_true rfl) ?_
  intro p e s mi args below meth c H ls hx hb hr hlk htab hml hown hB hK hW hS hl
  have hl : lv_has ls 6 [(0, rf E 0), (1, .int a0), (2, .int a1), (3, .int a2), (4, rf E 217)] := hl
  refine lv_aload hx hb dL_precedent_0 (lv_at hl 4 rfl) ?_
  refine lv_iconst (v := 0) hx hb dL_precedent_2 (by decide) ?_
  refine lv_aload_n hx hb dL_precedent_3 rfl (lv_at hl 0 rfl) ?_
  refine lv_iload_n hx hb dL_precedent_4 rfl (lv_at hl 1 rfl) ?_
  refine lv_iload_n hx hb dL_precedent_5 rfl (lv_at hl 2 rfl) ?_
  refine lv_iload_n hx hb dL_precedent_6 rfl (lv_at hl 3 rfl) ?_
  refine c_V (As := [.int a0, .int a1, .int a2]) (st1 := [.int r, .int 0, rf E 217]) (rest := [.int 0, rf E 217]) (p_X4_precedent l E x m g o hf) (kw_62 hB ⟨Nat.le_of_ble_eq_true rfl, Nat.le_of_ble_eq_true rfl⟩) (Wd.rec hK hW (by decide) cX_0 (ci := 4) rfl) hx hb hml hown hB hK hW hS ⟨Nat.zero_le _, Nat.zero_le _⟩ rfl hl.1 rfl (Nat.le_of_ble_eq_true rfl) rfl dL_precedent_7 (fun H locs hW hS => ?_)
  refine lv_i2l hx hb dL_precedent_10 rfl ?_
  refine r_last hx hb hK hW hS dL_precedent_11 (fun H locs hW hS => ?_)
  refine lv_goto (tgt := 23) hx hb dL_precedent_12 (by decide) ?_
  refine lv_iconst (v := 0) hx hb dL_precedent_23 (by decide) ?_
  exact e_iw (Nat.zero_le _) (Nat.zero_le _) hx hb hr hlk hW hS dL_precedent_24
set_option maxRecDepth 100000 in
set_option maxHeartbeats 4000000 in
theorem wt_precedent_1 (l : Launch) (hst : l.stackTraces = false) (E : TE) (x m : XS) (g o : Int64) {a0 : Int32} {a1 : Int32} {a2 : Int32} (hf : t_X4_precedent x a0 a1 a2 = some 1) : MW l E yL_precedent cL_precedent 6 [(0, 12, 15, 13), (0, 12, 19, 15)] 9 [rf E 0, .int a0, .int a1, .int a2, rf E 217] (Wd E x m g o) (Wd E x m g o) (some (.int 1)) := by
  refine w_in (by decide) (Nat.le_of_ble_eq_true rfl) ?_
  intro p e s mi args below meth c H ls hx hb hr hlk htab hml hown hB hK hW hS hl
  have hl : lv_has ls 6 [(0, rf E 0), (1, .int a0), (2, .int a1), (3, .int a2), (4, rf E 217)] := hl
  have hM : MT l E yX4_precedent cX4_precedent 5 (some .int) 7 [rf E 0, .int a0, .int a1, .int a2] (Wd E x m g o) "java/lang/IndexOutOfBoundsException" := tp_X4_precedent l hst E x m g o hf
  refine lv_aload hx hb dL_precedent_0 (lv_at hl 4 rfl) ?_
  refine lv_iconst (v := 0) hx hb dL_precedent_2 (by decide) ?_
  refine lv_aload_n hx hb dL_precedent_3 rfl (lv_at hl 0 rfl) ?_
  refine lv_iload_n hx hb dL_precedent_4 rfl (lv_at hl 1 rfl) ?_
  refine lv_iload_n hx hb dL_precedent_5 rfl (lv_at hl 2 rfl) ?_
  refine lv_iload_n hx hb dL_precedent_6 rfl (lv_at hl 3 rfl) ?_
  refine c_VT (As := [.int a0, .int a1, .int a2]) (rest := [.int 0, rf E 217]) hM (kwT_62 hB ⟨Nat.le_of_ble_eq_true rfl, Nat.le_of_ble_eq_true rfl⟩) (Wd.rec hK hW (by decide) cX_0 (ci := 4) rfl) hx hb hml hown hB hK hW hS ⟨Nat.le_of_ble_eq_true rfl, Nat.le_of_ble_eq_true rfl⟩ rfl hl.1 rfl (Nat.le_of_ble_eq_true rfl) dL_precedent_7 [] ⟨0, 12, 15, 13⟩ [⟨0, 12, 19, 15⟩] (htab.trans rfl) (fun z hz => nomatch hz) (by decide) (by decide) q_704 nwc_1 (hpc := 15) rfl (fun H locs q9 hW hS => ?_)
  refine lv_astore (lv' := [(5, .ref q9), (0, rf E 0), (1, .int a0), (2, .int a1), (3, .int a2), (4, rf E 217)]) hx hb dL_precedent_15 hl (by decide) rfl (fun ls hl => ?_)
  refine lv_iconst (v := 1) hx hb dL_precedent_17 (by decide) ?_
  exact e_iw (Nat.le_refl _) (Nat.le_refl _) hx hb hr hlk hW hS dL_precedent_18
set_option maxRecDepth 100000 in
set_option maxHeartbeats 4000000 in
theorem wt_precedent_2 (l : Launch) (hst : l.stackTraces = false) (E : TE) (x m : XS) (g o : Int64) {a0 : Int32} {a1 : Int32} {a2 : Int32} (hf : t_X4_precedent x a0 a1 a2 = some 2) : MW l E yL_precedent cL_precedent 6 [(0, 12, 15, 13), (0, 12, 19, 15)] 9 [rf E 0, .int a0, .int a1, .int a2, rf E 217] (Wd E x m g o) (Wd E x m g o) (some (.int 2)) := by
  refine w_in (by decide) (Nat.le_of_ble_eq_true rfl) ?_
  intro p e s mi args below meth c H ls hx hb hr hlk htab hml hown hB hK hW hS hl
  have hl : lv_has ls 6 [(0, rf E 0), (1, .int a0), (2, .int a1), (3, .int a2), (4, rf E 217)] := hl
  have hM : MT l E yX4_precedent cX4_precedent 5 (some .int) 7 [rf E 0, .int a0, .int a1, .int a2] (Wd E x m g o) "java/lang/IllegalArgumentException" := tp_X4_precedent l hst E x m g o hf
  refine lv_aload hx hb dL_precedent_0 (lv_at hl 4 rfl) ?_
  refine lv_iconst (v := 0) hx hb dL_precedent_2 (by decide) ?_
  refine lv_aload_n hx hb dL_precedent_3 rfl (lv_at hl 0 rfl) ?_
  refine lv_iload_n hx hb dL_precedent_4 rfl (lv_at hl 1 rfl) ?_
  refine lv_iload_n hx hb dL_precedent_5 rfl (lv_at hl 2 rfl) ?_
  refine lv_iload_n hx hb dL_precedent_6 rfl (lv_at hl 3 rfl) ?_
  refine c_VT (As := [.int a0, .int a1, .int a2]) (rest := [.int 0, rf E 217]) hM (kwT_62 hB ⟨Nat.le_of_ble_eq_true rfl, Nat.le_of_ble_eq_true rfl⟩) (Wd.rec hK hW (by decide) cX_0 (ci := 4) rfl) hx hb hml hown hB hK hW hS ⟨Nat.le_of_ble_eq_true rfl, Nat.le_of_ble_eq_true rfl⟩ rfl hl.1 rfl (Nat.le_of_ble_eq_true rfl) dL_precedent_7 [⟨0, 12, 15, 13⟩] ⟨0, 12, 19, 15⟩ [] (htab.trans rfl) (by
    intro z hz
    rcases List.mem_cons.mp hz with rfl | hz
    · exact ⟨by decide, "java/lang/IndexOutOfBoundsException", q_704, by decide⟩
    exact nomatch hz) (by decide) (by decide) q_705 nwc_2 (hpc := 19) rfl (fun H locs q9 hW hS => ?_)
  refine lv_astore (lv' := [(5, .ref q9), (0, rf E 0), (1, .int a0), (2, .int a1), (3, .int a2), (4, rf E 217)]) hx hb dL_precedent_19 hl (by decide) rfl (fun ls hl => ?_)
  refine lv_iconst (v := 2) hx hb dL_precedent_21 (by decide) ?_
  exact e_iw (Nat.le_refl _) (Nat.le_refl _) hx hb hr hlk hW hS dL_precedent_22
set_option maxRecDepth 100000 in
set_option maxHeartbeats 4000000 in
theorem wn_kind (l : Launch) (E : TE) (x m : XS) (g o : Int64) {a0 : Int32} {a1 : Int32} {r : Int32} (hf : f_X4_kind x a0 a1 = some r) : MW l E yL_kind cL_kind 5 [(0, 10, 13, 13), (0, 10, 17, 15)] 9 [rf E 0, .int a0, .int a1, rf E 217] (Wd E x m g o) (Wd E x m g r.toInt64) (some (.int 0)) := by
  refine w_in (by decide) (Nat.le_of_ble_eq_true rfl) ?_
  intro p e s mi args below meth c H ls hx hb hr hlk htab hml hown hB hK hW hS hl
  have hl : lv_has ls 5 [(0, rf E 0), (1, .int a0), (2, .int a1), (3, rf E 217)] := hl
  refine lv_aload_n hx hb dL_kind_0 rfl (lv_at hl 3 rfl) ?_
  refine lv_iconst (v := 0) hx hb dL_kind_1 (by decide) ?_
  refine lv_aload_n hx hb dL_kind_2 rfl (lv_at hl 0 rfl) ?_
  refine lv_iload_n hx hb dL_kind_3 rfl (lv_at hl 1 rfl) ?_
  refine lv_iload_n hx hb dL_kind_4 rfl (lv_at hl 2 rfl) ?_
  refine c_V (As := [.int a0, .int a1]) (st1 := [.int r, .int 0, rf E 217]) (rest := [.int 0, rf E 217]) (p_X4_kind l E x m g o hf) (kw_65 hB ⟨Nat.le_of_ble_eq_true rfl, Nat.le_of_ble_eq_true rfl⟩) (Wd.rec hK hW (by decide) cX_0 (ci := 4) rfl) hx hb hml hown hB hK hW hS ⟨Nat.zero_le _, Nat.zero_le _⟩ rfl hl.1 rfl (Nat.le_of_ble_eq_true rfl) rfl dL_kind_5 (fun H locs hW hS => ?_)
  refine lv_i2l hx hb dL_kind_8 rfl ?_
  refine r_last hx hb hK hW hS dL_kind_9 (fun H locs hW hS => ?_)
  refine lv_goto (tgt := 21) hx hb dL_kind_10 (by decide) ?_
  refine lv_iconst (v := 0) hx hb dL_kind_21 (by decide) ?_
  exact e_iw (Nat.zero_le _) (Nat.zero_le _) hx hb hr hlk hW hS dL_kind_22
set_option maxRecDepth 100000 in
set_option maxHeartbeats 4000000 in
theorem wt_kind_1 (l : Launch) (hst : l.stackTraces = false) (E : TE) (x m : XS) (g o : Int64) {a0 : Int32} {a1 : Int32} (hf : t_X4_kind x a0 a1 = some 1) : MW l E yL_kind cL_kind 5 [(0, 10, 13, 13), (0, 10, 17, 15)] 9 [rf E 0, .int a0, .int a1, rf E 217] (Wd E x m g o) (Wd E x m g o) (some (.int 1)) := by
  refine w_in (by decide) (Nat.le_of_ble_eq_true rfl) ?_
  intro p e s mi args below meth c H ls hx hb hr hlk htab hml hown hB hK hW hS hl
  have hl : lv_has ls 5 [(0, rf E 0), (1, .int a0), (2, .int a1), (3, rf E 217)] := hl
  have hM : MT l E yX4_kind cX4_kind 3 (some .int) 7 [rf E 0, .int a0, .int a1] (Wd E x m g o) "java/lang/IndexOutOfBoundsException" := tp_X4_kind l hst E x m g o hf
  refine lv_aload_n hx hb dL_kind_0 rfl (lv_at hl 3 rfl) ?_
  refine lv_iconst (v := 0) hx hb dL_kind_1 (by decide) ?_
  refine lv_aload_n hx hb dL_kind_2 rfl (lv_at hl 0 rfl) ?_
  refine lv_iload_n hx hb dL_kind_3 rfl (lv_at hl 1 rfl) ?_
  refine lv_iload_n hx hb dL_kind_4 rfl (lv_at hl 2 rfl) ?_
  refine c_VT (As := [.int a0, .int a1]) (rest := [.int 0, rf E 217]) hM (kwT_65 hB ⟨Nat.le_of_ble_eq_true rfl, Nat.le_of_ble_eq_true rfl⟩) (Wd.rec hK hW (by decide) cX_0 (ci := 4) rfl) hx hb hml hown hB hK hW hS ⟨Nat.le_of_ble_eq_true rfl, Nat.le_of_ble_eq_true rfl⟩ rfl hl.1 rfl (Nat.le_of_ble_eq_true rfl) dL_kind_5 [] ⟨0, 10, 13, 13⟩ [⟨0, 10, 17, 15⟩] (htab.trans rfl) (fun z hz => nomatch hz) (by decide) (by decide) q_704 nwc_1 (hpc := 13) rfl (fun H locs q9 hW hS => ?_)
  refine lv_astore (lv' := [(4, .ref q9), (0, rf E 0), (1, .int a0), (2, .int a1), (3, rf E 217)]) hx hb dL_kind_13 hl (by decide) rfl (fun ls hl => ?_)
  refine lv_iconst (v := 1) hx hb dL_kind_15 (by decide) ?_
  exact e_iw (Nat.le_refl _) (Nat.le_refl _) hx hb hr hlk hW hS dL_kind_16
set_option maxRecDepth 100000 in
set_option maxHeartbeats 4000000 in
theorem wt_kind_2 (l : Launch) (hst : l.stackTraces = false) (E : TE) (x m : XS) (g o : Int64) {a0 : Int32} {a1 : Int32} (hf : t_X4_kind x a0 a1 = some 2) : MW l E yL_kind cL_kind 5 [(0, 10, 13, 13), (0, 10, 17, 15)] 9 [rf E 0, .int a0, .int a1, rf E 217] (Wd E x m g o) (Wd E x m g o) (some (.int 2)) := by
  refine w_in (by decide) (Nat.le_of_ble_eq_true rfl) ?_
  intro p e s mi args below meth c H ls hx hb hr hlk htab hml hown hB hK hW hS hl
  have hl : lv_has ls 5 [(0, rf E 0), (1, .int a0), (2, .int a1), (3, rf E 217)] := hl
  have hM : MT l E yX4_kind cX4_kind 3 (some .int) 7 [rf E 0, .int a0, .int a1] (Wd E x m g o) "java/lang/IllegalArgumentException" := tp_X4_kind l hst E x m g o hf
  refine lv_aload_n hx hb dL_kind_0 rfl (lv_at hl 3 rfl) ?_
  refine lv_iconst (v := 0) hx hb dL_kind_1 (by decide) ?_
  refine lv_aload_n hx hb dL_kind_2 rfl (lv_at hl 0 rfl) ?_
  refine lv_iload_n hx hb dL_kind_3 rfl (lv_at hl 1 rfl) ?_
  refine lv_iload_n hx hb dL_kind_4 rfl (lv_at hl 2 rfl) ?_
  refine c_VT (As := [.int a0, .int a1]) (rest := [.int 0, rf E 217]) hM (kwT_65 hB ⟨Nat.le_of_ble_eq_true rfl, Nat.le_of_ble_eq_true rfl⟩) (Wd.rec hK hW (by decide) cX_0 (ci := 4) rfl) hx hb hml hown hB hK hW hS ⟨Nat.le_of_ble_eq_true rfl, Nat.le_of_ble_eq_true rfl⟩ rfl hl.1 rfl (Nat.le_of_ble_eq_true rfl) dL_kind_5 [⟨0, 10, 13, 13⟩] ⟨0, 10, 17, 15⟩ [] (htab.trans rfl) (by
    intro z hz
    rcases List.mem_cons.mp hz with rfl | hz
    · exact ⟨by decide, "java/lang/IndexOutOfBoundsException", q_704, by decide⟩
    exact nomatch hz) (by decide) (by decide) q_705 nwc_2 (hpc := 17) rfl (fun H locs q9 hW hS => ?_)
  refine lv_astore (lv' := [(4, .ref q9), (0, rf E 0), (1, .int a0), (2, .int a1), (3, rf E 217)]) hx hb dL_kind_17 hl (by decide) rfl (fun ls hl => ?_)
  refine lv_iconst (v := 2) hx hb dL_kind_19 (by decide) ?_
  exact e_iw (Nat.le_refl _) (Nat.le_refl _) hx hb hr hlk hW hS dL_kind_20
set_option maxRecDepth 100000 in
set_option maxHeartbeats 4000000 in
theorem wn_count (l : Launch) (E : TE) (x m : XS) (g o : Int64) {a0 : Int32} {r : Int32} (hf : f_X4_count x a0 = some r) : MW l E yL_count cL_count 4 [(0, 9, 12, 15)] 9 [rf E 0, .int a0, rf E 217] (Wd E x m g o) (Wd E x m g r.toInt64) (some (.int 0)) := by
  refine w_in (by decide) (Nat.le_of_ble_eq_true rfl) ?_
  intro p e s mi args below meth c H ls hx hb hr hlk htab hml hown hB hK hW hS hl
  have hl : lv_has ls 4 [(0, rf E 0), (1, .int a0), (2, rf E 217)] := hl
  refine lv_aload_n hx hb dL_count_0 rfl (lv_at hl 2 rfl) ?_
  refine lv_iconst (v := 0) hx hb dL_count_1 (by decide) ?_
  refine lv_aload_n hx hb dL_count_2 rfl (lv_at hl 0 rfl) ?_
  refine lv_iload_n hx hb dL_count_3 rfl (lv_at hl 1 rfl) ?_
  refine c_V (As := [.int a0]) (st1 := [.int r, .int 0, rf E 217]) (rest := [.int 0, rf E 217]) (p_X4_count l E x m g o hf) (kw_68 hB ⟨Nat.le_of_ble_eq_true rfl, Nat.le_of_ble_eq_true rfl⟩) (Wd.rec hK hW (by decide) cX_0 (ci := 4) rfl) hx hb hml hown hB hK hW hS ⟨Nat.zero_le _, Nat.zero_le _⟩ rfl hl.1 rfl (Nat.le_of_ble_eq_true rfl) rfl dL_count_4 (fun H locs hW hS => ?_)
  refine lv_i2l hx hb dL_count_7 rfl ?_
  refine r_last hx hb hK hW hS dL_count_8 (fun H locs hW hS => ?_)
  refine lv_goto (tgt := 15) hx hb dL_count_9 (by decide) ?_
  refine lv_iconst (v := 0) hx hb dL_count_15 (by decide) ?_
  exact e_iw (Nat.zero_le _) (Nat.zero_le _) hx hb hr hlk hW hS dL_count_16
set_option maxRecDepth 100000 in
set_option maxHeartbeats 4000000 in
theorem wt_count_2 (l : Launch) (hst : l.stackTraces = false) (E : TE) (x m : XS) (g o : Int64) {a0 : Int32} (hf : t_X4_count x a0 = some 2) : MW l E yL_count cL_count 4 [(0, 9, 12, 15)] 9 [rf E 0, .int a0, rf E 217] (Wd E x m g o) (Wd E x m g o) (some (.int 1)) := by
  refine w_in (by decide) (Nat.le_of_ble_eq_true rfl) ?_
  intro p e s mi args below meth c H ls hx hb hr hlk htab hml hown hB hK hW hS hl
  have hl : lv_has ls 4 [(0, rf E 0), (1, .int a0), (2, rf E 217)] := hl
  have hM : MT l E yX4_count cX4_count 2 (some .int) 7 [rf E 0, .int a0] (Wd E x m g o) "java/lang/IllegalArgumentException" := tp_X4_count l hst E x m g o hf
  refine lv_aload_n hx hb dL_count_0 rfl (lv_at hl 2 rfl) ?_
  refine lv_iconst (v := 0) hx hb dL_count_1 (by decide) ?_
  refine lv_aload_n hx hb dL_count_2 rfl (lv_at hl 0 rfl) ?_
  refine lv_iload_n hx hb dL_count_3 rfl (lv_at hl 1 rfl) ?_
  refine c_VT (As := [.int a0]) (rest := [.int 0, rf E 217]) hM (kwT_68 hB ⟨Nat.le_of_ble_eq_true rfl, Nat.le_of_ble_eq_true rfl⟩) (Wd.rec hK hW (by decide) cX_0 (ci := 4) rfl) hx hb hml hown hB hK hW hS ⟨Nat.le_of_ble_eq_true rfl, Nat.le_of_ble_eq_true rfl⟩ rfl hl.1 rfl (Nat.le_of_ble_eq_true rfl) dL_count_4 [] ⟨0, 9, 12, 15⟩ [] (htab.trans rfl) (fun z hz => nomatch hz) (by decide) (by decide) q_705 nwc_2 (hpc := 12) rfl (fun H locs q9 hW hS => ?_)
  refine lv_astore_n (lv' := [(3, .ref q9), (0, rf E 0), (1, .int a0), (2, rf E 217)]) hx hb dL_count_12 rfl hl (by decide) rfl (fun ls hl => ?_)
  refine lv_iconst (v := 1) hx hb dL_count_13 (by decide) ?_
  exact e_iw (Nat.le_refl _) (Nat.le_refl _) hx hb hr hlk hW hS dL_count_14
set_option maxRecDepth 100000 in
set_option maxHeartbeats 4000000 in
theorem wn_setting (l : Launch) (E : TE) (x m : XS) (g o : Int64) {a0 : Int32} {r : Int32} (hf : f_X4_setting x a0 = some r) : MW l E yL_setting cL_setting 4 [(0, 9, 12, 13)] 9 [rf E 0, .int a0, rf E 217] (Wd E x m g o) (Wd E x m g r.toInt64) (some (.int 0)) := by
  refine w_in (by decide) (Nat.le_of_ble_eq_true rfl) ?_
  intro p e s mi args below meth c H ls hx hb hr hlk htab hml hown hB hK hW hS hl
  have hl : lv_has ls 4 [(0, rf E 0), (1, .int a0), (2, rf E 217)] := hl
  refine lv_aload_n hx hb dL_setting_0 rfl (lv_at hl 2 rfl) ?_
  refine lv_iconst (v := 0) hx hb dL_setting_1 (by decide) ?_
  refine lv_aload_n hx hb dL_setting_2 rfl (lv_at hl 0 rfl) ?_
  refine lv_iload_n hx hb dL_setting_3 rfl (lv_at hl 1 rfl) ?_
  refine c_V (As := [.int a0]) (st1 := [.int r, .int 0, rf E 217]) (rest := [.int 0, rf E 217]) (p_X4_setting l E x m g o hf) (kw_71 hB ⟨Nat.le_of_ble_eq_true rfl, Nat.le_of_ble_eq_true rfl⟩) (Wd.rec hK hW (by decide) cX_0 (ci := 4) rfl) hx hb hml hown hB hK hW hS ⟨Nat.zero_le _, Nat.zero_le _⟩ rfl hl.1 rfl (Nat.le_of_ble_eq_true rfl) rfl dL_setting_4 (fun H locs hW hS => ?_)
  refine lv_i2l hx hb dL_setting_7 rfl ?_
  refine r_last hx hb hK hW hS dL_setting_8 (fun H locs hW hS => ?_)
  refine lv_goto (tgt := 15) hx hb dL_setting_9 (by decide) ?_
  refine lv_iconst (v := 0) hx hb dL_setting_15 (by decide) ?_
  exact e_iw (Nat.zero_le _) (Nat.zero_le _) hx hb hr hlk hW hS dL_setting_16
set_option maxRecDepth 100000 in
set_option maxHeartbeats 4000000 in
theorem wt_setting_1 (l : Launch) (hst : l.stackTraces = false) (E : TE) (x m : XS) (g o : Int64) {a0 : Int32} (hf : t_X4_setting x a0 = some 1) : MW l E yL_setting cL_setting 4 [(0, 9, 12, 13)] 9 [rf E 0, .int a0, rf E 217] (Wd E x m g o) (Wd E x m g o) (some (.int 1)) := by
  refine w_in (by decide) (Nat.le_of_ble_eq_true rfl) ?_
  intro p e s mi args below meth c H ls hx hb hr hlk htab hml hown hB hK hW hS hl
  have hl : lv_has ls 4 [(0, rf E 0), (1, .int a0), (2, rf E 217)] := hl
  have hM : MT l E yX4_setting cX4_setting 2 (some .int) 7 [rf E 0, .int a0] (Wd E x m g o) "java/lang/IndexOutOfBoundsException" := tp_X4_setting l hst E x m g o hf
  refine lv_aload_n hx hb dL_setting_0 rfl (lv_at hl 2 rfl) ?_
  refine lv_iconst (v := 0) hx hb dL_setting_1 (by decide) ?_
  refine lv_aload_n hx hb dL_setting_2 rfl (lv_at hl 0 rfl) ?_
  refine lv_iload_n hx hb dL_setting_3 rfl (lv_at hl 1 rfl) ?_
  refine c_VT (As := [.int a0]) (rest := [.int 0, rf E 217]) hM (kwT_71 hB ⟨Nat.le_of_ble_eq_true rfl, Nat.le_of_ble_eq_true rfl⟩) (Wd.rec hK hW (by decide) cX_0 (ci := 4) rfl) hx hb hml hown hB hK hW hS ⟨Nat.le_of_ble_eq_true rfl, Nat.le_of_ble_eq_true rfl⟩ rfl hl.1 rfl (Nat.le_of_ble_eq_true rfl) dL_setting_4 [] ⟨0, 9, 12, 13⟩ [] (htab.trans rfl) (fun z hz => nomatch hz) (by decide) (by decide) q_704 nwc_1 (hpc := 12) rfl (fun H locs q9 hW hS => ?_)
  refine lv_astore_n (lv' := [(3, .ref q9), (0, rf E 0), (1, .int a0), (2, rf E 217)]) hx hb dL_setting_12 rfl hl (by decide) rfl (fun ls hl => ?_)
  refine lv_iconst (v := 1) hx hb dL_setting_13 (by decide) ?_
  exact e_iw (Nat.le_refl _) (Nat.le_refl _) hx hb hr hlk hW hS dL_setting_14
set_option maxRecDepth 100000 in
set_option maxHeartbeats 4000000 in
theorem wn_ofCustomer (l : Launch) (E : TE) (x m : XS) (g o : Int64) {a0 : Int32} {a1 : Int32} {r : Int32} (hf : f_X4_ofCustomer x a0 a1 = some r) : MW l E yL_ofCustomer cL_ofCustomer 5 [(0, 10, 13, 13), (0, 10, 17, 15)] 9 [rf E 0, .int a0, .int a1, rf E 217] (Wd E x m g o) (Wd E x m g r.toInt64) (some (.int 0)) := by
  refine w_in (by decide) (Nat.le_of_ble_eq_true rfl) ?_
  intro p e s mi args below meth c H ls hx hb hr hlk htab hml hown hB hK hW hS hl
  have hl : lv_has ls 5 [(0, rf E 0), (1, .int a0), (2, .int a1), (3, rf E 217)] := hl
  refine lv_aload_n hx hb dL_ofCustomer_0 rfl (lv_at hl 3 rfl) ?_
  refine lv_iconst (v := 0) hx hb dL_ofCustomer_1 (by decide) ?_
  refine lv_aload_n hx hb dL_ofCustomer_2 rfl (lv_at hl 0 rfl) ?_
  refine lv_iload_n hx hb dL_ofCustomer_3 rfl (lv_at hl 1 rfl) ?_
  refine lv_iload_n hx hb dL_ofCustomer_4 rfl (lv_at hl 2 rfl) ?_
  refine c_V (As := [.int a0, .int a1]) (st1 := [.int r, .int 0, rf E 217]) (rest := [.int 0, rf E 217]) (p_X4_ofCustomer l E x m g o hf) (kw_74 hB ⟨Nat.le_of_ble_eq_true rfl, Nat.le_of_ble_eq_true rfl⟩) (Wd.rec hK hW (by decide) cX_0 (ci := 4) rfl) hx hb hml hown hB hK hW hS ⟨Nat.zero_le _, Nat.zero_le _⟩ rfl hl.1 rfl (Nat.le_of_ble_eq_true rfl) rfl dL_ofCustomer_5 (fun H locs hW hS => ?_)
  refine lv_i2l hx hb dL_ofCustomer_8 rfl ?_
  refine r_last hx hb hK hW hS dL_ofCustomer_9 (fun H locs hW hS => ?_)
  refine lv_goto (tgt := 21) hx hb dL_ofCustomer_10 (by decide) ?_
  refine lv_iconst (v := 0) hx hb dL_ofCustomer_21 (by decide) ?_
  exact e_iw (Nat.zero_le _) (Nat.zero_le _) hx hb hr hlk hW hS dL_ofCustomer_22
set_option maxRecDepth 100000 in
set_option maxHeartbeats 4000000 in
theorem wt_ofCustomer_1 (l : Launch) (hst : l.stackTraces = false) (E : TE) (x m : XS) (g o : Int64) {a0 : Int32} {a1 : Int32} (hf : t_X4_ofCustomer x a0 a1 = some 1) : MW l E yL_ofCustomer cL_ofCustomer 5 [(0, 10, 13, 13), (0, 10, 17, 15)] 9 [rf E 0, .int a0, .int a1, rf E 217] (Wd E x m g o) (Wd E x m g o) (some (.int 1)) := by
  refine w_in (by decide) (Nat.le_of_ble_eq_true rfl) ?_
  intro p e s mi args below meth c H ls hx hb hr hlk htab hml hown hB hK hW hS hl
  have hl : lv_has ls 5 [(0, rf E 0), (1, .int a0), (2, .int a1), (3, rf E 217)] := hl
  have hM : MT l E yX4_ofCustomer cX4_ofCustomer 3 (some .int) 7 [rf E 0, .int a0, .int a1] (Wd E x m g o) "java/lang/IndexOutOfBoundsException" := tp_X4_ofCustomer l hst E x m g o hf
  refine lv_aload_n hx hb dL_ofCustomer_0 rfl (lv_at hl 3 rfl) ?_
  refine lv_iconst (v := 0) hx hb dL_ofCustomer_1 (by decide) ?_
  refine lv_aload_n hx hb dL_ofCustomer_2 rfl (lv_at hl 0 rfl) ?_
  refine lv_iload_n hx hb dL_ofCustomer_3 rfl (lv_at hl 1 rfl) ?_
  refine lv_iload_n hx hb dL_ofCustomer_4 rfl (lv_at hl 2 rfl) ?_
  refine c_VT (As := [.int a0, .int a1]) (rest := [.int 0, rf E 217]) hM (kwT_74 hB ⟨Nat.le_of_ble_eq_true rfl, Nat.le_of_ble_eq_true rfl⟩) (Wd.rec hK hW (by decide) cX_0 (ci := 4) rfl) hx hb hml hown hB hK hW hS ⟨Nat.le_of_ble_eq_true rfl, Nat.le_of_ble_eq_true rfl⟩ rfl hl.1 rfl (Nat.le_of_ble_eq_true rfl) dL_ofCustomer_5 [] ⟨0, 10, 13, 13⟩ [⟨0, 10, 17, 15⟩] (htab.trans rfl) (fun z hz => nomatch hz) (by decide) (by decide) q_704 nwc_1 (hpc := 13) rfl (fun H locs q9 hW hS => ?_)
  refine lv_astore (lv' := [(4, .ref q9), (0, rf E 0), (1, .int a0), (2, .int a1), (3, rf E 217)]) hx hb dL_ofCustomer_13 hl (by decide) rfl (fun ls hl => ?_)
  refine lv_iconst (v := 1) hx hb dL_ofCustomer_15 (by decide) ?_
  exact e_iw (Nat.le_refl _) (Nat.le_refl _) hx hb hr hlk hW hS dL_ofCustomer_16
set_option maxRecDepth 100000 in
set_option maxHeartbeats 4000000 in
theorem wt_ofCustomer_2 (l : Launch) (hst : l.stackTraces = false) (E : TE) (x m : XS) (g o : Int64) {a0 : Int32} {a1 : Int32} (hf : t_X4_ofCustomer x a0 a1 = some 2) : MW l E yL_ofCustomer cL_ofCustomer 5 [(0, 10, 13, 13), (0, 10, 17, 15)] 9 [rf E 0, .int a0, .int a1, rf E 217] (Wd E x m g o) (Wd E x m g o) (some (.int 2)) := by
  refine w_in (by decide) (Nat.le_of_ble_eq_true rfl) ?_
  intro p e s mi args below meth c H ls hx hb hr hlk htab hml hown hB hK hW hS hl
  have hl : lv_has ls 5 [(0, rf E 0), (1, .int a0), (2, .int a1), (3, rf E 217)] := hl
  have hM : MT l E yX4_ofCustomer cX4_ofCustomer 3 (some .int) 7 [rf E 0, .int a0, .int a1] (Wd E x m g o) "java/lang/IllegalArgumentException" := tp_X4_ofCustomer l hst E x m g o hf
  refine lv_aload_n hx hb dL_ofCustomer_0 rfl (lv_at hl 3 rfl) ?_
  refine lv_iconst (v := 0) hx hb dL_ofCustomer_1 (by decide) ?_
  refine lv_aload_n hx hb dL_ofCustomer_2 rfl (lv_at hl 0 rfl) ?_
  refine lv_iload_n hx hb dL_ofCustomer_3 rfl (lv_at hl 1 rfl) ?_
  refine lv_iload_n hx hb dL_ofCustomer_4 rfl (lv_at hl 2 rfl) ?_
  refine c_VT (As := [.int a0, .int a1]) (rest := [.int 0, rf E 217]) hM (kwT_74 hB ⟨Nat.le_of_ble_eq_true rfl, Nat.le_of_ble_eq_true rfl⟩) (Wd.rec hK hW (by decide) cX_0 (ci := 4) rfl) hx hb hml hown hB hK hW hS ⟨Nat.le_of_ble_eq_true rfl, Nat.le_of_ble_eq_true rfl⟩ rfl hl.1 rfl (Nat.le_of_ble_eq_true rfl) dL_ofCustomer_5 [⟨0, 10, 13, 13⟩] ⟨0, 10, 17, 15⟩ [] (htab.trans rfl) (by
    intro z hz
    rcases List.mem_cons.mp hz with rfl | hz
    · exact ⟨by decide, "java/lang/IndexOutOfBoundsException", q_704, by decide⟩
    exact nomatch hz) (by decide) (by decide) q_705 nwc_2 (hpc := 17) rfl (fun H locs q9 hW hS => ?_)
  refine lv_astore (lv' := [(4, .ref q9), (0, rf E 0), (1, .int a0), (2, .int a1), (3, rf E 217)]) hx hb dL_ofCustomer_17 hl (by decide) rfl (fun ls hl => ?_)
  refine lv_iconst (v := 2) hx hb dL_ofCustomer_19 (by decide) ?_
  exact e_iw (Nat.le_refl _) (Nat.le_refl _) hx hb hr hlk hW hS dL_ofCustomer_20
set_option maxRecDepth 100000 in
set_option maxHeartbeats 4000000 in
theorem wn_whyNot (l : Launch) (E : TE) (x m : XS) (g o : Int64) {a0 : Int32} {a1 : Int32} {a2 : Int32} {r : Int32} (hf : f_X4_whyNot x a0 a1 a2 = some r) : MW l E yL_whyNot cL_whyNot 6 [(0, 12, 15, 13), (0, 12, 19, 15)] 9 [rf E 0, .int a0, .int a1, .int a2, rf E 217] (Wd E x m g o) (Wd E x m g r.toInt64) (some (.int 0)) := by
  refine w_in (by decide) (Nat.le_of_ble_eq_true rfl) ?_
  intro p e s mi args below meth c H ls hx hb hr hlk htab hml hown hB hK hW hS hl
  have hl : lv_has ls 6 [(0, rf E 0), (1, .int a0), (2, .int a1), (3, .int a2), (4, rf E 217)] := hl
  refine lv_aload hx hb dL_whyNot_0 (lv_at hl 4 rfl) ?_
  refine lv_iconst (v := 0) hx hb dL_whyNot_2 (by decide) ?_
  refine lv_aload_n hx hb dL_whyNot_3 rfl (lv_at hl 0 rfl) ?_
  refine lv_iload_n hx hb dL_whyNot_4 rfl (lv_at hl 1 rfl) ?_
  refine lv_iload_n hx hb dL_whyNot_5 rfl (lv_at hl 2 rfl) ?_
  refine lv_iload_n hx hb dL_whyNot_6 rfl (lv_at hl 3 rfl) ?_
  refine c_V (As := [.int a0, .int a1, .int a2]) (st1 := [.int r, .int 0, rf E 217]) (rest := [.int 0, rf E 217]) (p_X4_whyNot l E x m g o hf) (kw_77 hB ⟨Nat.le_of_ble_eq_true rfl, Nat.le_of_ble_eq_true rfl⟩) (Wd.rec hK hW (by decide) cX_0 (ci := 4) rfl) hx hb hml hown hB hK hW hS ⟨Nat.zero_le _, Nat.zero_le _⟩ rfl hl.1 rfl (Nat.le_of_ble_eq_true rfl) rfl dL_whyNot_7 (fun H locs hW hS => ?_)
  refine lv_i2l hx hb dL_whyNot_10 rfl ?_
  refine r_last hx hb hK hW hS dL_whyNot_11 (fun H locs hW hS => ?_)
  refine lv_goto (tgt := 23) hx hb dL_whyNot_12 (by decide) ?_
  refine lv_iconst (v := 0) hx hb dL_whyNot_23 (by decide) ?_
  exact e_iw (Nat.zero_le _) (Nat.zero_le _) hx hb hr hlk hW hS dL_whyNot_24
set_option maxRecDepth 100000 in
set_option maxHeartbeats 4000000 in
theorem wt_whyNot_1 (l : Launch) (hst : l.stackTraces = false) (E : TE) (x m : XS) (g o : Int64) {a0 : Int32} {a1 : Int32} {a2 : Int32} (hf : t_X4_whyNot x a0 a1 a2 = some 1) : MW l E yL_whyNot cL_whyNot 6 [(0, 12, 15, 13), (0, 12, 19, 15)] 9 [rf E 0, .int a0, .int a1, .int a2, rf E 217] (Wd E x m g o) (Wd E x m g o) (some (.int 1)) := by
  refine w_in (by decide) (Nat.le_of_ble_eq_true rfl) ?_
  intro p e s mi args below meth c H ls hx hb hr hlk htab hml hown hB hK hW hS hl
  have hl : lv_has ls 6 [(0, rf E 0), (1, .int a0), (2, .int a1), (3, .int a2), (4, rf E 217)] := hl
  have hM : MT l E yX4_whyNot cX4_whyNot 4 (some .int) 7 [rf E 0, .int a0, .int a1, .int a2] (Wd E x m g o) "java/lang/IndexOutOfBoundsException" := tp_X4_whyNot l hst E x m g o hf
  refine lv_aload hx hb dL_whyNot_0 (lv_at hl 4 rfl) ?_
  refine lv_iconst (v := 0) hx hb dL_whyNot_2 (by decide) ?_
  refine lv_aload_n hx hb dL_whyNot_3 rfl (lv_at hl 0 rfl) ?_
  refine lv_iload_n hx hb dL_whyNot_4 rfl (lv_at hl 1 rfl) ?_
  refine lv_iload_n hx hb dL_whyNot_5 rfl (lv_at hl 2 rfl) ?_
  refine lv_iload_n hx hb dL_whyNot_6 rfl (lv_at hl 3 rfl) ?_
  refine c_VT (As := [.int a0, .int a1, .int a2]) (rest := [.int 0, rf E 217]) hM (kwT_77 hB ⟨Nat.le_of_ble_eq_true rfl, Nat.le_of_ble_eq_true rfl⟩) (Wd.rec hK hW (by decide) cX_0 (ci := 4) rfl) hx hb hml hown hB hK hW hS ⟨Nat.le_of_ble_eq_true rfl, Nat.le_of_ble_eq_true rfl⟩ rfl hl.1 rfl (Nat.le_of_ble_eq_true rfl) dL_whyNot_7 [] ⟨0, 12, 15, 13⟩ [⟨0, 12, 19, 15⟩] (htab.trans rfl) (fun z hz => nomatch hz) (by decide) (by decide) q_704 nwc_1 (hpc := 15) rfl (fun H locs q9 hW hS => ?_)
  refine lv_astore (lv' := [(5, .ref q9), (0, rf E 0), (1, .int a0), (2, .int a1), (3, .int a2), (4, rf E 217)]) hx hb dL_whyNot_15 hl (by decide) rfl (fun ls hl => ?_)
  refine lv_iconst (v := 1) hx hb dL_whyNot_17 (by decide) ?_
  exact e_iw (Nat.le_refl _) (Nat.le_refl _) hx hb hr hlk hW hS dL_whyNot_18
set_option maxRecDepth 100000 in
set_option maxHeartbeats 4000000 in
theorem wt_whyNot_2 (l : Launch) (hst : l.stackTraces = false) (E : TE) (x m : XS) (g o : Int64) {a0 : Int32} {a1 : Int32} {a2 : Int32} (hf : t_X4_whyNot x a0 a1 a2 = some 2) : MW l E yL_whyNot cL_whyNot 6 [(0, 12, 15, 13), (0, 12, 19, 15)] 9 [rf E 0, .int a0, .int a1, .int a2, rf E 217] (Wd E x m g o) (Wd E x m g o) (some (.int 2)) := by
  refine w_in (by decide) (Nat.le_of_ble_eq_true rfl) ?_
  intro p e s mi args below meth c H ls hx hb hr hlk htab hml hown hB hK hW hS hl
  have hl : lv_has ls 6 [(0, rf E 0), (1, .int a0), (2, .int a1), (3, .int a2), (4, rf E 217)] := hl
  have hM : MT l E yX4_whyNot cX4_whyNot 4 (some .int) 7 [rf E 0, .int a0, .int a1, .int a2] (Wd E x m g o) "java/lang/IllegalArgumentException" := tp_X4_whyNot l hst E x m g o hf
  refine lv_aload hx hb dL_whyNot_0 (lv_at hl 4 rfl) ?_
  refine lv_iconst (v := 0) hx hb dL_whyNot_2 (by decide) ?_
  refine lv_aload_n hx hb dL_whyNot_3 rfl (lv_at hl 0 rfl) ?_
  refine lv_iload_n hx hb dL_whyNot_4 rfl (lv_at hl 1 rfl) ?_
  refine lv_iload_n hx hb dL_whyNot_5 rfl (lv_at hl 2 rfl) ?_
  refine lv_iload_n hx hb dL_whyNot_6 rfl (lv_at hl 3 rfl) ?_
  refine c_VT (As := [.int a0, .int a1, .int a2]) (rest := [.int 0, rf E 217]) hM (kwT_77 hB ⟨Nat.le_of_ble_eq_true rfl, Nat.le_of_ble_eq_true rfl⟩) (Wd.rec hK hW (by decide) cX_0 (ci := 4) rfl) hx hb hml hown hB hK hW hS ⟨Nat.le_of_ble_eq_true rfl, Nat.le_of_ble_eq_true rfl⟩ rfl hl.1 rfl (Nat.le_of_ble_eq_true rfl) dL_whyNot_7 [⟨0, 12, 15, 13⟩] ⟨0, 12, 19, 15⟩ [] (htab.trans rfl) (by
    intro z hz
    rcases List.mem_cons.mp hz with rfl | hz
    · exact ⟨by decide, "java/lang/IndexOutOfBoundsException", q_704, by decide⟩
    exact nomatch hz) (by decide) (by decide) q_705 nwc_2 (hpc := 19) rfl (fun H locs q9 hW hS => ?_)
  refine lv_astore (lv' := [(5, .ref q9), (0, rf E 0), (1, .int a0), (2, .int a1), (3, .int a2), (4, rf E 217)]) hx hb dL_whyNot_19 hl (by decide) rfl (fun ls hl => ?_)
  refine lv_iconst (v := 2) hx hb dL_whyNot_21 (by decide) ?_
  exact e_iw (Nat.le_refl _) (Nat.le_refl _) hx hb hr hlk hW hS dL_whyNot_22
set_option maxRecDepth 100000 in
set_option maxHeartbeats 4000000 in
theorem wn_fair (l : Launch) (E : TE) (x m : XS) (g o : Int64) {a0 : Int32} {r : Int32} (hf : f_X4_fair x a0 = some r) : MW l E yL_fair cL_fair 4 [(0, 9, 12, 13)] 9 [rf E 0, .int a0, rf E 217] (Wd E x m g o) (Wd E x m g r.toInt64) (some (.int 0)) := by
  refine w_in (by decide) (Nat.le_of_ble_eq_true rfl) ?_
  intro p e s mi args below meth c H ls hx hb hr hlk htab hml hown hB hK hW hS hl
  have hl : lv_has ls 4 [(0, rf E 0), (1, .int a0), (2, rf E 217)] := hl
  refine lv_aload_n hx hb dL_fair_0 rfl (lv_at hl 2 rfl) ?_
  refine lv_iconst (v := 0) hx hb dL_fair_1 (by decide) ?_
  refine lv_aload_n hx hb dL_fair_2 rfl (lv_at hl 0 rfl) ?_
  refine lv_iload_n hx hb dL_fair_3 rfl (lv_at hl 1 rfl) ?_
  refine c_V (As := [.int a0]) (st1 := [.int r, .int 0, rf E 217]) (rest := [.int 0, rf E 217]) (p_X4_fair l E x m g o hf) (kw_80 hB ⟨Nat.le_of_ble_eq_true rfl, Nat.le_of_ble_eq_true rfl⟩) (Wd.rec hK hW (by decide) cX_0 (ci := 4) rfl) hx hb hml hown hB hK hW hS ⟨Nat.zero_le _, Nat.zero_le _⟩ rfl hl.1 rfl (Nat.le_of_ble_eq_true rfl) rfl dL_fair_4 (fun H locs hW hS => ?_)
  refine lv_i2l hx hb dL_fair_7 rfl ?_
  refine r_last hx hb hK hW hS dL_fair_8 (fun H locs hW hS => ?_)
  refine lv_goto (tgt := 15) hx hb dL_fair_9 (by decide) ?_
  refine lv_iconst (v := 0) hx hb dL_fair_15 (by decide) ?_
  exact e_iw (Nat.zero_le _) (Nat.zero_le _) hx hb hr hlk hW hS dL_fair_16
set_option maxRecDepth 100000 in
set_option maxHeartbeats 4000000 in
theorem wt_fair_1 (l : Launch) (hst : l.stackTraces = false) (E : TE) (x m : XS) (g o : Int64) {a0 : Int32} (hf : t_X4_fair x a0 = some 1) : MW l E yL_fair cL_fair 4 [(0, 9, 12, 13)] 9 [rf E 0, .int a0, rf E 217] (Wd E x m g o) (Wd E x m g o) (some (.int 1)) := by
  refine w_in (by decide) (Nat.le_of_ble_eq_true rfl) ?_
  intro p e s mi args below meth c H ls hx hb hr hlk htab hml hown hB hK hW hS hl
  have hl : lv_has ls 4 [(0, rf E 0), (1, .int a0), (2, rf E 217)] := hl
  have hM : MT l E yX4_fair cX4_fair 6 (some .int) 7 [rf E 0, .int a0] (Wd E x m g o) "java/lang/IndexOutOfBoundsException" := tp_X4_fair l hst E x m g o hf
  refine lv_aload_n hx hb dL_fair_0 rfl (lv_at hl 2 rfl) ?_
  refine lv_iconst (v := 0) hx hb dL_fair_1 (by decide) ?_
  refine lv_aload_n hx hb dL_fair_2 rfl (lv_at hl 0 rfl) ?_
  refine lv_iload_n hx hb dL_fair_3 rfl (lv_at hl 1 rfl) ?_
  refine c_VT (As := [.int a0]) (rest := [.int 0, rf E 217]) hM (kwT_80 hB ⟨Nat.le_of_ble_eq_true rfl, Nat.le_of_ble_eq_true rfl⟩) (Wd.rec hK hW (by decide) cX_0 (ci := 4) rfl) hx hb hml hown hB hK hW hS ⟨Nat.le_of_ble_eq_true rfl, Nat.le_of_ble_eq_true rfl⟩ rfl hl.1 rfl (Nat.le_of_ble_eq_true rfl) dL_fair_4 [] ⟨0, 9, 12, 13⟩ [] (htab.trans rfl) (fun z hz => nomatch hz) (by decide) (by decide) q_704 nwc_1 (hpc := 12) rfl (fun H locs q9 hW hS => ?_)
  refine lv_astore_n (lv' := [(3, .ref q9), (0, rf E 0), (1, .int a0), (2, rf E 217)]) hx hb dL_fair_12 rfl hl (by decide) rfl (fun ls hl => ?_)
  refine lv_iconst (v := 1) hx hb dL_fair_13 (by decide) ?_
  exact e_iw (Nat.le_refl _) (Nat.le_refl _) hx hb hr hlk hW hS dL_fair_14
set_option maxRecDepth 100000 in
set_option maxHeartbeats 4000000 in
theorem wn_ifJudged (l : Launch) (E : TE) (x m : XS) (g o : Int64) {a0 : Int32} {a1 : Int32} {a2 : Int32} {r : Int32} {xr : XS} (hf : f_X4_ifJudged x a0 a1 a2 = some (r, xr)) : MW l E yL_ifJudged cL_ifJudged 6 [(0, 12, 15, 13), (0, 12, 19, 15)] 9 [rf E 0, .int a0, .int a1, .int a2, rf E 217] (Wd E x m g o) (Wd E xr m g r.toInt64) (some (.int 0)) := by
  refine w_in (by decide) (Nat.le_of_ble_eq_true rfl) ?_
  intro p e s mi args below meth c H ls hx hb hr hlk htab hml hown hB hK hW hS hl
  have hl : lv_has ls 6 [(0, rf E 0), (1, .int a0), (2, .int a1), (3, .int a2), (4, rf E 217)] := hl
  refine lv_aload hx hb dL_ifJudged_0 (lv_at hl 4 rfl) ?_
  refine lv_iconst (v := 0) hx hb dL_ifJudged_2 (by decide) ?_
  refine lv_aload_n hx hb dL_ifJudged_3 rfl (lv_at hl 0 rfl) ?_
  refine lv_iload_n hx hb dL_ifJudged_4 rfl (lv_at hl 1 rfl) ?_
  refine lv_iload_n hx hb dL_ifJudged_5 rfl (lv_at hl 2 rfl) ?_
  refine lv_iload_n hx hb dL_ifJudged_6 rfl (lv_at hl 3 rfl) ?_
  refine c_V (As := [.int a0, .int a1, .int a2]) (st1 := [.int r, .int 0, rf E 217]) (rest := [.int 0, rf E 217]) (p_X4_ifJudged l E x m g o hf) (kw_83 hB ⟨Nat.le_of_ble_eq_true rfl, Nat.le_of_ble_eq_true rfl⟩) (Wd.rec hK hW (by decide) cX_0 (ci := 4) rfl) hx hb hml hown hB hK hW hS ⟨Nat.zero_le _, Nat.zero_le _⟩ rfl hl.1 rfl (Nat.le_of_ble_eq_true rfl) rfl dL_ifJudged_7 (fun H locs hW hS => ?_)
  refine lv_i2l hx hb dL_ifJudged_10 rfl ?_
  refine r_last hx hb hK hW hS dL_ifJudged_11 (fun H locs hW hS => ?_)
  refine lv_goto (tgt := 23) hx hb dL_ifJudged_12 (by decide) ?_
  refine lv_iconst (v := 0) hx hb dL_ifJudged_23 (by decide) ?_
  exact e_iw (Nat.zero_le _) (Nat.zero_le _) hx hb hr hlk hW hS dL_ifJudged_24
set_option maxRecDepth 100000 in
set_option maxHeartbeats 4000000 in
theorem wt_ifJudged_1 (l : Launch) (hst : l.stackTraces = false) (E : TE) (x m : XS) (g o : Int64) {a0 : Int32} {a1 : Int32} {a2 : Int32} (hf : t_X4_ifJudged x a0 a1 a2 = some 1) : MW l E yL_ifJudged cL_ifJudged 6 [(0, 12, 15, 13), (0, 12, 19, 15)] 9 [rf E 0, .int a0, .int a1, .int a2, rf E 217] (Wd E x m g o) (Wd E x m g o) (some (.int 1)) := by
  refine w_in (by decide) (Nat.le_of_ble_eq_true rfl) ?_
  intro p e s mi args below meth c H ls hx hb hr hlk htab hml hown hB hK hW hS hl
  have hl : lv_has ls 6 [(0, rf E 0), (1, .int a0), (2, .int a1), (3, .int a2), (4, rf E 217)] := hl
  have hM : MT l E yX4_ifJudged cX4_ifJudged 5 (some .int) 7 [rf E 0, .int a0, .int a1, .int a2] (Wd E x m g o) "java/lang/IndexOutOfBoundsException" := tp_X4_ifJudged l hst E x m g o hf
  refine lv_aload hx hb dL_ifJudged_0 (lv_at hl 4 rfl) ?_
  refine lv_iconst (v := 0) hx hb dL_ifJudged_2 (by decide) ?_
  refine lv_aload_n hx hb dL_ifJudged_3 rfl (lv_at hl 0 rfl) ?_
  refine lv_iload_n hx hb dL_ifJudged_4 rfl (lv_at hl 1 rfl) ?_
  refine lv_iload_n hx hb dL_ifJudged_5 rfl (lv_at hl 2 rfl) ?_
  refine lv_iload_n hx hb dL_ifJudged_6 rfl (lv_at hl 3 rfl) ?_
  refine c_VT (As := [.int a0, .int a1, .int a2]) (rest := [.int 0, rf E 217]) hM (kwT_83 hB ⟨Nat.le_of_ble_eq_true rfl, Nat.le_of_ble_eq_true rfl⟩) (Wd.rec hK hW (by decide) cX_0 (ci := 4) rfl) hx hb hml hown hB hK hW hS ⟨Nat.le_of_ble_eq_true rfl, Nat.le_of_ble_eq_true rfl⟩ rfl hl.1 rfl (Nat.le_of_ble_eq_true rfl) dL_ifJudged_7 [] ⟨0, 12, 15, 13⟩ [⟨0, 12, 19, 15⟩] (htab.trans rfl) (fun z hz => nomatch hz) (by decide) (by decide) q_704 nwc_1 (hpc := 15) rfl (fun H locs q9 hW hS => ?_)
  refine lv_astore (lv' := [(5, .ref q9), (0, rf E 0), (1, .int a0), (2, .int a1), (3, .int a2), (4, rf E 217)]) hx hb dL_ifJudged_15 hl (by decide) rfl (fun ls hl => ?_)
  refine lv_iconst (v := 1) hx hb dL_ifJudged_17 (by decide) ?_
  exact e_iw (Nat.le_refl _) (Nat.le_refl _) hx hb hr hlk hW hS dL_ifJudged_18
set_option maxRecDepth 100000 in
set_option maxHeartbeats 4000000 in
theorem wt_ifJudged_2 (l : Launch) (hst : l.stackTraces = false) (E : TE) (x m : XS) (g o : Int64) {a0 : Int32} {a1 : Int32} {a2 : Int32} (hf : t_X4_ifJudged x a0 a1 a2 = some 2) : MW l E yL_ifJudged cL_ifJudged 6 [(0, 12, 15, 13), (0, 12, 19, 15)] 9 [rf E 0, .int a0, .int a1, .int a2, rf E 217] (Wd E x m g o) (Wd E x m g o) (some (.int 2)) := by
  refine w_in (by decide) (Nat.le_of_ble_eq_true rfl) ?_
  intro p e s mi args below meth c H ls hx hb hr hlk htab hml hown hB hK hW hS hl
  have hl : lv_has ls 6 [(0, rf E 0), (1, .int a0), (2, .int a1), (3, .int a2), (4, rf E 217)] := hl
  have hM : MT l E yX4_ifJudged cX4_ifJudged 5 (some .int) 7 [rf E 0, .int a0, .int a1, .int a2] (Wd E x m g o) "java/lang/IllegalArgumentException" := tp_X4_ifJudged l hst E x m g o hf
  refine lv_aload hx hb dL_ifJudged_0 (lv_at hl 4 rfl) ?_
  refine lv_iconst (v := 0) hx hb dL_ifJudged_2 (by decide) ?_
  refine lv_aload_n hx hb dL_ifJudged_3 rfl (lv_at hl 0 rfl) ?_
  refine lv_iload_n hx hb dL_ifJudged_4 rfl (lv_at hl 1 rfl) ?_
  refine lv_iload_n hx hb dL_ifJudged_5 rfl (lv_at hl 2 rfl) ?_
  refine lv_iload_n hx hb dL_ifJudged_6 rfl (lv_at hl 3 rfl) ?_
  refine c_VT (As := [.int a0, .int a1, .int a2]) (rest := [.int 0, rf E 217]) hM (kwT_83 hB ⟨Nat.le_of_ble_eq_true rfl, Nat.le_of_ble_eq_true rfl⟩) (Wd.rec hK hW (by decide) cX_0 (ci := 4) rfl) hx hb hml hown hB hK hW hS ⟨Nat.le_of_ble_eq_true rfl, Nat.le_of_ble_eq_true rfl⟩ rfl hl.1 rfl (Nat.le_of_ble_eq_true rfl) dL_ifJudged_7 [⟨0, 12, 15, 13⟩] ⟨0, 12, 19, 15⟩ [] (htab.trans rfl) (by
    intro z hz
    rcases List.mem_cons.mp hz with rfl | hz
    · exact ⟨by decide, "java/lang/IndexOutOfBoundsException", q_704, by decide⟩
    exact nomatch hz) (by decide) (by decide) q_705 nwc_2 (hpc := 19) rfl (fun H locs q9 hW hS => ?_)
  refine lv_astore (lv' := [(5, .ref q9), (0, rf E 0), (1, .int a0), (2, .int a1), (3, .int a2), (4, rf E 217)]) hx hb dL_ifJudged_19 hl (by decide) rfl (fun ls hl => ?_)
  refine lv_iconst (v := 2) hx hb dL_ifJudged_21 (by decide) ?_
  exact e_iw (Nat.le_refl _) (Nat.le_refl _) hx hb hr hlk hW hS dL_ifJudged_22
