-- ===== PART A: goes FIRST, ahead of the names: the tables' words, and 'selects' of the private methods out of them =====
/-- a private method of a class that the tables say can be made, by its rows of tables_1 -/
def lw_okq (q : MethodName × Nat) : Prop := (q.1.cls ≠ "java/lang/invoke/MethodHandle" ∧ q.1.cls ≠ "java/lang/invoke/VarHandle") ∧ Cond.instantiable q.1.cls q.2 ∈ tables_1 ∧ Cond.privateMethod q.1 ∈ tables_1 ∧ Cond.instanceMethod q.1 ∈ tables_1
theorem lw_p0 : lw_okq (⟨"NameRail", "finding", "(I)I"⟩, 8) := ⟨⟨by decide +kernel, by decide +kernel⟩, List.mem_of_getElem? (i := 16) (by decide +kernel), List.mem_of_getElem? (i := 186) (by decide +kernel), List.mem_of_getElem? (i := 187) (by decide +kernel)⟩
theorem lw_p1 : lw_okq (⟨"NameRail", "isName", "(I)Z"⟩, 8) := ⟨⟨by decide +kernel, by decide +kernel⟩, List.mem_of_getElem? (i := 16) (by decide +kernel), List.mem_of_getElem? (i := 199) (by decide +kernel), List.mem_of_getElem? (i := 200) (by decide +kernel)⟩
theorem lw_p2 : lw_okq (⟨"NameRail", "changed", "([IIIZ)I"⟩, 8) := ⟨⟨by decide +kernel, by decide +kernel⟩, List.mem_of_getElem? (i := 16) (by decide +kernel), List.mem_of_getElem? (i := 225) (by decide +kernel), List.mem_of_getElem? (i := 226) (by decide +kernel)⟩
theorem lw_p3 : lw_okq (⟨"NameRail", "isNameOrNone", "(I)Z"⟩, 8) := ⟨⟨by decide +kernel, by decide +kernel⟩, List.mem_of_getElem? (i := 16) (by decide +kernel), List.mem_of_getElem? (i := 230) (by decide +kernel), List.mem_of_getElem? (i := 231) (by decide +kernel)⟩
theorem lw_p4 : lw_okq (⟨"NameRail", "richestWith", "(II)I"⟩, 8) := ⟨⟨by decide +kernel, by decide +kernel⟩, List.mem_of_getElem? (i := 16) (by decide +kernel), List.mem_of_getElem? (i := 435) (by decide +kernel), List.mem_of_getElem? (i := 436) (by decide +kernel)⟩
theorem lw_p5 : lw_okq (⟨"NameRail", "faultOfFit", "(II)I"⟩, 8) := ⟨⟨by decide +kernel, by decide +kernel⟩, List.mem_of_getElem? (i := 16) (by decide +kernel), List.mem_of_getElem? (i := 447) (by decide +kernel), List.mem_of_getElem? (i := 448) (by decide +kernel)⟩
theorem lw_p6 : lw_okq (⟨"NameRail", "fitting", "(LNameRail$Sheet;I)I"⟩, 8) := ⟨⟨by decide +kernel, by decide +kernel⟩, List.mem_of_getElem? (i := 16) (by decide +kernel), List.mem_of_getElem? (i := 454) (by decide +kernel), List.mem_of_getElem? (i := 455) (by decide +kernel)⟩
theorem lw_p7 : lw_okq (⟨"NameRail$Reader", "step", "()V"⟩, 5) := ⟨⟨by decide +kernel, by decide +kernel⟩, List.mem_of_getElem? (i := 110) (by decide +kernel), List.mem_of_getElem? (i := 504) (by decide +kernel), List.mem_of_getElem? (i := 505) (by decide +kernel)⟩
theorem lw_p8 : lw_okq (⟨"NameRail$Reader", "stepWord", "()V"⟩, 5) := ⟨⟨by decide +kernel, by decide +kernel⟩, List.mem_of_getElem? (i := 110) (by decide +kernel), List.mem_of_getElem? (i := 515) (by decide +kernel), List.mem_of_getElem? (i := 516) (by decide +kernel)⟩
theorem lw_p9 : lw_okq (⟨"NameRail$Reader", "stepNumber", "()V"⟩, 5) := ⟨⟨by decide +kernel, by decide +kernel⟩, List.mem_of_getElem? (i := 110) (by decide +kernel), List.mem_of_getElem? (i := 522) (by decide +kernel), List.mem_of_getElem? (i := 523) (by decide +kernel)⟩
theorem lw_p10 : lw_okq (⟨"NameRail$Reader", "item", "(LNameRail$House;)Z"⟩, 5) := ⟨⟨by decide +kernel, by decide +kernel⟩, List.mem_of_getElem? (i := 110) (by decide +kernel), List.mem_of_getElem? (i := 527) (by decide +kernel), List.mem_of_getElem? (i := 528) (by decide +kernel)⟩
theorem lw_p11 : lw_okq (⟨"NameRail$Reader", "kindTold", "()I"⟩, 5) := ⟨⟨by decide +kernel, by decide +kernel⟩, List.mem_of_getElem? (i := 110) (by decide +kernel), List.mem_of_getElem? (i := 531) (by decide +kernel), List.mem_of_getElem? (i := 532) (by decide +kernel)⟩
theorem lw_p12 : lw_okq (⟨"NameRail$Reader", "isWord", "(Ljava/lang/String;)Z"⟩, 5) := ⟨⟨by decide +kernel, by decide +kernel⟩, List.mem_of_getElem? (i := 110) (by decide +kernel), List.mem_of_getElem? (i := 536) (by decide +kernel), List.mem_of_getElem? (i := 537) (by decide +kernel)⟩
theorem lw_p13 : lw_okq (⟨"NameRail$Reader", "nameItem", "(LNameRail$House;I)Z"⟩, 5) := ⟨⟨by decide +kernel, by decide +kernel⟩, List.mem_of_getElem? (i := 110) (by decide +kernel), List.mem_of_getElem? (i := 594) (by decide +kernel), List.mem_of_getElem? (i := 595) (by decide +kernel)⟩
theorem lw_p14 : lw_okq (⟨"NameRail$Reader", "isNumberTo", "(I)Z"⟩, 5) := ⟨⟨by decide +kernel, by decide +kernel⟩, List.mem_of_getElem? (i := 110) (by decide +kernel), List.mem_of_getElem? (i := 598) (by decide +kernel), List.mem_of_getElem? (i := 599) (by decide +kernel)⟩
theorem lw_p15 : lw_okq (⟨"NameRail$Reader", "personItem", "(LNameRail$House;)Z"⟩, 5) := ⟨⟨by decide +kernel, by decide +kernel⟩, List.mem_of_getElem? (i := 110) (by decide +kernel), List.mem_of_getElem? (i := 606) (by decide +kernel), List.mem_of_getElem? (i := 607) (by decide +kernel)⟩
def lw_privs_1 : List (MethodName × Nat) := [(⟨"NameRail", "finding", "(I)I"⟩, 8), (⟨"NameRail", "isName", "(I)Z"⟩, 8), (⟨"NameRail", "changed", "([IIIZ)I"⟩, 8), (⟨"NameRail", "isNameOrNone", "(I)Z"⟩, 8), (⟨"NameRail", "richestWith", "(II)I"⟩, 8), (⟨"NameRail", "faultOfFit", "(II)I"⟩, 8), (⟨"NameRail", "fitting", "(LNameRail$Sheet;I)I"⟩, 8), (⟨"NameRail$Reader", "step", "()V"⟩, 5), (⟨"NameRail$Reader", "stepWord", "()V"⟩, 5), (⟨"NameRail$Reader", "stepNumber", "()V"⟩, 5), (⟨"NameRail$Reader", "item", "(LNameRail$House;)Z"⟩, 5), (⟨"NameRail$Reader", "kindTold", "()I"⟩, 5), (⟨"NameRail$Reader", "isWord", "(Ljava/lang/String;)Z"⟩, 5), (⟨"NameRail$Reader", "nameItem", "(LNameRail$House;I)Z"⟩, 5), (⟨"NameRail$Reader", "isNumberTo", "(I)Z"⟩, 5), (⟨"NameRail$Reader", "personItem", "(LNameRail$House;)Z"⟩, 5)]
theorem lw_r1 : ∀ q ∈ lw_privs_1, lw_okq q := List.forall_mem_cons.mpr ⟨lw_p0, List.forall_mem_cons.mpr ⟨lw_p1, List.forall_mem_cons.mpr ⟨lw_p2, List.forall_mem_cons.mpr ⟨lw_p3, List.forall_mem_cons.mpr ⟨lw_p4, List.forall_mem_cons.mpr ⟨lw_p5, List.forall_mem_cons.mpr ⟨lw_p6, List.forall_mem_cons.mpr ⟨lw_p7, List.forall_mem_cons.mpr ⟨lw_p8, List.forall_mem_cons.mpr ⟨lw_p9, List.forall_mem_cons.mpr ⟨lw_p10, List.forall_mem_cons.mpr ⟨lw_p11, List.forall_mem_cons.mpr ⟨lw_p12, List.forall_mem_cons.mpr ⟨lw_p13, List.forall_mem_cons.mpr ⟨lw_p14, List.forall_mem_cons.mpr ⟨lw_p15, fun _ h => absurd h List.not_mem_nil⟩⟩⟩⟩⟩⟩⟩⟩⟩⟩⟩⟩⟩⟩⟩⟩
theorem lw_p16 : lw_okq (⟨"NameRail$Reader", "orderItem", "(LNameRail$House;)Z"⟩, 5) := ⟨⟨by decide +kernel, by decide +kernel⟩, List.mem_of_getElem? (i := 110) (by decide +kernel), List.mem_of_getElem? (i := 613) (by decide +kernel), List.mem_of_getElem? (i := 614) (by decide +kernel)⟩
theorem lw_p17 : lw_okq (⟨"NameRailModel", "finding", "(I)I"⟩, 22) := ⟨⟨by decide +kernel, by decide +kernel⟩, List.mem_of_getElem? (i := 689) (by decide +kernel), List.mem_of_getElem? (i := 782) (by decide +kernel), List.mem_of_getElem? (i := 783) (by decide +kernel)⟩
theorem lw_p18 : lw_okq (⟨"NameRailModel", "comes", "(IIII)I"⟩, 22) := ⟨⟨by decide +kernel, by decide +kernel⟩, List.mem_of_getElem? (i := 689) (by decide +kernel), List.mem_of_getElem? (i := 787) (by decide +kernel), List.mem_of_getElem? (i := 788) (by decide +kernel)⟩
theorem lw_p19 : lw_okq (⟨"NameRailModel", "isName", "(I)Z"⟩, 22) := ⟨⟨by decide +kernel, by decide +kernel⟩, List.mem_of_getElem? (i := 689) (by decide +kernel), List.mem_of_getElem? (i := 798) (by decide +kernel), List.mem_of_getElem? (i := 799) (by decide +kernel)⟩
theorem lw_p20 : lw_okq (⟨"NameRailModel", "dueOf", "(I)I"⟩, 22) := ⟨⟨by decide +kernel, by decide +kernel⟩, List.mem_of_getElem? (i := 689) (by decide +kernel), List.mem_of_getElem? (i := 802) (by decide +kernel), List.mem_of_getElem? (i := 803) (by decide +kernel)⟩
theorem lw_p21 : lw_okq (⟨"NameRailModel", "nameIs", "(II)I"⟩, 22) := ⟨⟨by decide +kernel, by decide +kernel⟩, List.mem_of_getElem? (i := 689) (by decide +kernel), List.mem_of_getElem? (i := 806) (by decide +kernel), List.mem_of_getElem? (i := 807) (by decide +kernel)⟩
theorem lw_p22 : lw_okq (⟨"NameRailModel", "fadesBy", "(I)I"⟩, 22) := ⟨⟨by decide +kernel, by decide +kernel⟩, List.mem_of_getElem? (i := 689) (by decide +kernel), List.mem_of_getElem? (i := 810) (by decide +kernel), List.mem_of_getElem? (i := 811) (by decide +kernel)⟩
theorem lw_p23 : lw_okq (⟨"NameRailModel", "hangs", "(I)Z"⟩, 22) := ⟨⟨by decide +kernel, by decide +kernel⟩, List.mem_of_getElem? (i := 689) (by decide +kernel), List.mem_of_getElem? (i := 814) (by decide +kernel), List.mem_of_getElem? (i := 815) (by decide +kernel)⟩
theorem lw_p24 : lw_okq (⟨"NameRailModel", "foesOf", "(I)I"⟩, 22) := ⟨⟨by decide +kernel, by decide +kernel⟩, List.mem_of_getElem? (i := 689) (by decide +kernel), List.mem_of_getElem? (i := 818) (by decide +kernel), List.mem_of_getElem? (i := 819) (by decide +kernel)⟩
theorem lw_p25 : lw_okq (⟨"NameRailModel", "doQuarrel", "(II)Z"⟩, 22) := ⟨⟨by decide +kernel, by decide +kernel⟩, List.mem_of_getElem? (i := 689) (by decide +kernel), List.mem_of_getElem? (i := 822) (by decide +kernel), List.mem_of_getElem? (i := 823) (by decide +kernel)⟩
theorem lw_p26 : lw_okq (⟨"NameRailModel", "mayBe", "(III)Z"⟩, 22) := ⟨⟨by decide +kernel, by decide +kernel⟩, List.mem_of_getElem? (i := 689) (by decide +kernel), List.mem_of_getElem? (i := 830) (by decide +kernel), List.mem_of_getElem? (i := 831) (by decide +kernel)⟩
theorem lw_p27 : lw_okq (⟨"NameRailModel", "become", "(II)I"⟩, 22) := ⟨⟨by decide +kernel, by decide +kernel⟩, List.mem_of_getElem? (i := 689) (by decide +kernel), List.mem_of_getElem? (i := 835) (by decide +kernel), List.mem_of_getElem? (i := 836) (by decide +kernel)⟩
theorem lw_p28 : lw_okq (⟨"NameRailModel", "placeOf", "(I)I"⟩, 22) := ⟨⟨by decide +kernel, by decide +kernel⟩, List.mem_of_getElem? (i := 689) (by decide +kernel), List.mem_of_getElem? (i := 853) (by decide +kernel), List.mem_of_getElem? (i := 854) (by decide +kernel)⟩
theorem lw_p29 : lw_okq (⟨"NameRailModel", "days", "(I)V"⟩, 22) := ⟨⟨by decide +kernel, by decide +kernel⟩, List.mem_of_getElem? (i := 689) (by decide +kernel), List.mem_of_getElem? (i := 880) (by decide +kernel), List.mem_of_getElem? (i := 881) (by decide +kernel)⟩
theorem lw_p30 : lw_okq (⟨"NameRailModel", "day", "()V"⟩, 22) := ⟨⟨by decide +kernel, by decide +kernel⟩, List.mem_of_getElem? (i := 689) (by decide +kernel), List.mem_of_getElem? (i := 884) (by decide +kernel), List.mem_of_getElem? (i := 885) (by decide +kernel)⟩
theorem lw_p31 : lw_okq (⟨"NameRailModel", "drawBy", "(I)I"⟩, 22) := ⟨⟨by decide +kernel, by decide +kernel⟩, List.mem_of_getElem? (i := 689) (by decide +kernel), List.mem_of_getElem? (i := 888) (by decide +kernel), List.mem_of_getElem? (i := 889) (by decide +kernel)⟩
def lw_privs_2 : List (MethodName × Nat) := [(⟨"NameRail$Reader", "orderItem", "(LNameRail$House;)Z"⟩, 5), (⟨"NameRailModel", "finding", "(I)I"⟩, 22), (⟨"NameRailModel", "comes", "(IIII)I"⟩, 22), (⟨"NameRailModel", "isName", "(I)Z"⟩, 22), (⟨"NameRailModel", "dueOf", "(I)I"⟩, 22), (⟨"NameRailModel", "nameIs", "(II)I"⟩, 22), (⟨"NameRailModel", "fadesBy", "(I)I"⟩, 22), (⟨"NameRailModel", "hangs", "(I)Z"⟩, 22), (⟨"NameRailModel", "foesOf", "(I)I"⟩, 22), (⟨"NameRailModel", "doQuarrel", "(II)Z"⟩, 22), (⟨"NameRailModel", "mayBe", "(III)Z"⟩, 22), (⟨"NameRailModel", "become", "(II)I"⟩, 22), (⟨"NameRailModel", "placeOf", "(I)I"⟩, 22), (⟨"NameRailModel", "days", "(I)V"⟩, 22), (⟨"NameRailModel", "day", "()V"⟩, 22), (⟨"NameRailModel", "drawBy", "(I)I"⟩, 22)]
theorem lw_r2 : ∀ q ∈ lw_privs_2, lw_okq q := List.forall_mem_cons.mpr ⟨lw_p16, List.forall_mem_cons.mpr ⟨lw_p17, List.forall_mem_cons.mpr ⟨lw_p18, List.forall_mem_cons.mpr ⟨lw_p19, List.forall_mem_cons.mpr ⟨lw_p20, List.forall_mem_cons.mpr ⟨lw_p21, List.forall_mem_cons.mpr ⟨lw_p22, List.forall_mem_cons.mpr ⟨lw_p23, List.forall_mem_cons.mpr ⟨lw_p24, List.forall_mem_cons.mpr ⟨lw_p25, List.forall_mem_cons.mpr ⟨lw_p26, List.forall_mem_cons.mpr ⟨lw_p27, List.forall_mem_cons.mpr ⟨lw_p28, List.forall_mem_cons.mpr ⟨lw_p29, List.forall_mem_cons.mpr ⟨lw_p30, List.forall_mem_cons.mpr ⟨lw_p31, fun _ h => absurd h List.not_mem_nil⟩⟩⟩⟩⟩⟩⟩⟩⟩⟩⟩⟩⟩⟩⟩⟩
theorem lw_p32 : lw_okq (⟨"NameRailModel", "leastLeft", "(I)I"⟩, 22) := ⟨⟨by decide +kernel, by decide +kernel⟩, List.mem_of_getElem? (i := 689) (by decide +kernel), List.mem_of_getElem? (i := 892) (by decide +kernel), List.mem_of_getElem? (i := 893) (by decide +kernel)⟩
theorem lw_p33 : lw_okq (⟨"NameRailModel", "pays", "(I)V"⟩, 22) := ⟨⟨by decide +kernel, by decide +kernel⟩, List.mem_of_getElem? (i := 689) (by decide +kernel), List.mem_of_getElem? (i := 896) (by decide +kernel), List.mem_of_getElem? (i := 897) (by decide +kernel)⟩
theorem lw_p34 : lw_okq (⟨"NameRailModel", "quarrelsIn", "(I)I"⟩, 22) := ⟨⟨by decide +kernel, by decide +kernel⟩, List.mem_of_getElem? (i := 689) (by decide +kernel), List.mem_of_getElem? (i := 901) (by decide +kernel), List.mem_of_getElem? (i := 902) (by decide +kernel)⟩
theorem lw_p35 : lw_okq (⟨"NameRailModel", "purses", "()I"⟩, 22) := ⟨⟨by decide +kernel, by decide +kernel⟩, List.mem_of_getElem? (i := 689) (by decide +kernel), List.mem_of_getElem? (i := 905) (by decide +kernel), List.mem_of_getElem? (i := 906) (by decide +kernel)⟩
theorem lw_p36 : lw_okq (⟨"NameRailModel", "hungNow", "()I"⟩, 22) := ⟨⟨by decide +kernel, by decide +kernel⟩, List.mem_of_getElem? (i := 689) (by decide +kernel), List.mem_of_getElem? (i := 913) (by decide +kernel), List.mem_of_getElem? (i := 914) (by decide +kernel)⟩
theorem lw_p37 : lw_okq (⟨"NameRailModel", "debts", "()I"⟩, 22) := ⟨⟨by decide +kernel, by decide +kernel⟩, List.mem_of_getElem? (i := 689) (by decide +kernel), List.mem_of_getElem? (i := 917) (by decide +kernel), List.mem_of_getElem? (i := 918) (by decide +kernel)⟩
theorem lw_p38 : lw_okq (⟨"NameRailModel", "behind", "(II)I"⟩, 22) := ⟨⟨by decide +kernel, by decide +kernel⟩, List.mem_of_getElem? (i := 689) (by decide +kernel), List.mem_of_getElem? (i := 933) (by decide +kernel), List.mem_of_getElem? (i := 934) (by decide +kernel)⟩
theorem lw_p39 : lw_okq (⟨"NameRailModel", "putBack", "(I)I"⟩, 22) := ⟨⟨by decide +kernel, by decide +kernel⟩, List.mem_of_getElem? (i := 689) (by decide +kernel), List.mem_of_getElem? (i := 940) (by decide +kernel), List.mem_of_getElem? (i := 941) (by decide +kernel)⟩
theorem lw_p40 : lw_okq (⟨"NameRailModel", "hungFor", "(I)I"⟩, 22) := ⟨⟨by decide +kernel, by decide +kernel⟩, List.mem_of_getElem? (i := 689) (by decide +kernel), List.mem_of_getElem? (i := 952) (by decide +kernel), List.mem_of_getElem? (i := 953) (by decide +kernel)⟩
theorem lw_p41 : lw_okq (⟨"NameRailModel", "orNone", "(I)I"⟩, 22) := ⟨⟨by decide +kernel, by decide +kernel⟩, List.mem_of_getElem? (i := 689) (by decide +kernel), List.mem_of_getElem? (i := 961) (by decide +kernel), List.mem_of_getElem? (i := 962) (by decide +kernel)⟩
theorem lw_p42 : lw_okq (⟨"NameRailModel", "doesDraw", "(III)Z"⟩, 22) := ⟨⟨by decide +kernel, by decide +kernel⟩, List.mem_of_getElem? (i := 689) (by decide +kernel), List.mem_of_getElem? (i := 977) (by decide +kernel), List.mem_of_getElem? (i := 978) (by decide +kernel)⟩
theorem lw_p43 : lw_okq (⟨"NameRailModel", "leastOrder", "(Z)I"⟩, 22) := ⟨⟨by decide +kernel, by decide +kernel⟩, List.mem_of_getElem? (i := 689) (by decide +kernel), List.mem_of_getElem? (i := 989) (by decide +kernel), List.mem_of_getElem? (i := 990) (by decide +kernel)⟩
theorem lw_p44 : lw_okq (⟨"NameRailModel", "duesIn", "(I)I"⟩, 22) := ⟨⟨by decide +kernel, by decide +kernel⟩, List.mem_of_getElem? (i := 689) (by decide +kernel), List.mem_of_getElem? (i := 994) (by decide +kernel), List.mem_of_getElem? (i := 995) (by decide +kernel)⟩
theorem lw_p45 : lw_okq (⟨"NameRailModel", "greatest", "(IIIII)I"⟩, 22) := ⟨⟨by decide +kernel, by decide +kernel⟩, List.mem_of_getElem? (i := 689) (by decide +kernel), List.mem_of_getElem? (i := 1006) (by decide +kernel), List.mem_of_getElem? (i := 1007) (by decide +kernel)⟩
theorem lw_p46 : lw_okq (⟨"NameRailModel", "isPeace", "(I)Z"⟩, 22) := ⟨⟨by decide +kernel, by decide +kernel⟩, List.mem_of_getElem? (i := 689) (by decide +kernel), List.mem_of_getElem? (i := 1021) (by decide +kernel), List.mem_of_getElem? (i := 1022) (by decide +kernel)⟩
theorem lw_p47 : lw_okq (⟨"NameRailModel", "pursesBy", "(II)I"⟩, 22) := ⟨⟨by decide +kernel, by decide +kernel⟩, List.mem_of_getElem? (i := 689) (by decide +kernel), List.mem_of_getElem? (i := 1037) (by decide +kernel), List.mem_of_getElem? (i := 1038) (by decide +kernel)⟩
def lw_privs_3 : List (MethodName × Nat) := [(⟨"NameRailModel", "leastLeft", "(I)I"⟩, 22), (⟨"NameRailModel", "pays", "(I)V"⟩, 22), (⟨"NameRailModel", "quarrelsIn", "(I)I"⟩, 22), (⟨"NameRailModel", "purses", "()I"⟩, 22), (⟨"NameRailModel", "hungNow", "()I"⟩, 22), (⟨"NameRailModel", "debts", "()I"⟩, 22), (⟨"NameRailModel", "behind", "(II)I"⟩, 22), (⟨"NameRailModel", "putBack", "(I)I"⟩, 22), (⟨"NameRailModel", "hungFor", "(I)I"⟩, 22), (⟨"NameRailModel", "orNone", "(I)I"⟩, 22), (⟨"NameRailModel", "doesDraw", "(III)Z"⟩, 22), (⟨"NameRailModel", "leastOrder", "(Z)I"⟩, 22), (⟨"NameRailModel", "duesIn", "(I)I"⟩, 22), (⟨"NameRailModel", "greatest", "(IIIII)I"⟩, 22), (⟨"NameRailModel", "isPeace", "(I)Z"⟩, 22), (⟨"NameRailModel", "pursesBy", "(II)I"⟩, 22)]
theorem lw_r3 : ∀ q ∈ lw_privs_3, lw_okq q := List.forall_mem_cons.mpr ⟨lw_p32, List.forall_mem_cons.mpr ⟨lw_p33, List.forall_mem_cons.mpr ⟨lw_p34, List.forall_mem_cons.mpr ⟨lw_p35, List.forall_mem_cons.mpr ⟨lw_p36, List.forall_mem_cons.mpr ⟨lw_p37, List.forall_mem_cons.mpr ⟨lw_p38, List.forall_mem_cons.mpr ⟨lw_p39, List.forall_mem_cons.mpr ⟨lw_p40, List.forall_mem_cons.mpr ⟨lw_p41, List.forall_mem_cons.mpr ⟨lw_p42, List.forall_mem_cons.mpr ⟨lw_p43, List.forall_mem_cons.mpr ⟨lw_p44, List.forall_mem_cons.mpr ⟨lw_p45, List.forall_mem_cons.mpr ⟨lw_p46, List.forall_mem_cons.mpr ⟨lw_p47, fun _ h => absurd h List.not_mem_nil⟩⟩⟩⟩⟩⟩⟩⟩⟩⟩⟩⟩⟩⟩⟩⟩
theorem lw_p48 : lw_okq (⟨"NameRailModel", "putBackPurses", "()I"⟩, 22) := ⟨⟨by decide +kernel, by decide +kernel⟩, List.mem_of_getElem? (i := 689) (by decide +kernel), List.mem_of_getElem? (i := 1041) (by decide +kernel), List.mem_of_getElem? (i := 1042) (by decide +kernel)⟩
theorem lw_p49 : lw_okq (⟨"NameRailModel", "lacks", "(I)I"⟩, 22) := ⟨⟨by decide +kernel, by decide +kernel⟩, List.mem_of_getElem? (i := 689) (by decide +kernel), List.mem_of_getElem? (i := 1053) (by decide +kernel), List.mem_of_getElem? (i := 1054) (by decide +kernel)⟩
theorem lw_p50 : lw_okq (⟨"NameRailModel", "fitting", "(II)I"⟩, 22) := ⟨⟨by decide +kernel, by decide +kernel⟩, List.mem_of_getElem? (i := 689) (by decide +kernel), List.mem_of_getElem? (i := 1061) (by decide +kernel), List.mem_of_getElem? (i := 1062) (by decide +kernel)⟩
theorem lw_p51 : lw_okq (⟨"NameRailModel", "wentSo", "(II)Z"⟩, 22) := ⟨⟨by decide +kernel, by decide +kernel⟩, List.mem_of_getElem? (i := 689) (by decide +kernel), List.mem_of_getElem? (i := 1065) (by decide +kernel), List.mem_of_getElem? (i := 1066) (by decide +kernel)⟩
theorem lw_p52 : lw_okq (⟨"NameRailModel", "drawnNumber", "()I"⟩, 22) := ⟨⟨by decide +kernel, by decide +kernel⟩, List.mem_of_getElem? (i := 689) (by decide +kernel), List.mem_of_getElem? (i := 1077) (by decide +kernel), List.mem_of_getElem? (i := 1078) (by decide +kernel)⟩
theorem lw_p53 : lw_okq (⟨"NameRailModel", "next", "()V"⟩, 22) := ⟨⟨by decide +kernel, by decide +kernel⟩, List.mem_of_getElem? (i := 689) (by decide +kernel), List.mem_of_getElem? (i := 1102) (by decide +kernel), List.mem_of_getElem? (i := 1103) (by decide +kernel)⟩
theorem lw_p54 : lw_okq (⟨"NameRailModel", "byteAt", "(I)I"⟩, 22) := ⟨⟨by decide +kernel, by decide +kernel⟩, List.mem_of_getElem? (i := 689) (by decide +kernel), List.mem_of_getElem? (i := 1106) (by decide +kernel), List.mem_of_getElem? (i := 1107) (by decide +kernel)⟩
theorem lw_p55 : lw_okq (⟨"NameRailModel", "readItem", "()V"⟩, 22) := ⟨⟨by decide +kernel, by decide +kernel⟩, List.mem_of_getElem? (i := 689) (by decide +kernel), List.mem_of_getElem? (i := 1110) (by decide +kernel), List.mem_of_getElem? (i := 1111) (by decide +kernel)⟩
theorem lw_p56 : lw_okq (⟨"NameRailModel", "kindTold", "()I"⟩, 22) := ⟨⟨by decide +kernel, by decide +kernel⟩, List.mem_of_getElem? (i := 689) (by decide +kernel), List.mem_of_getElem? (i := 1114) (by decide +kernel), List.mem_of_getElem? (i := 1115) (by decide +kernel)⟩
theorem lw_p57 : lw_okq (⟨"NameRailModel", "isWord", "(Ljava/lang/String;)Z"⟩, 22) := ⟨⟨by decide +kernel, by decide +kernel⟩, List.mem_of_getElem? (i := 689) (by decide +kernel), List.mem_of_getElem? (i := 1118) (by decide +kernel), List.mem_of_getElem? (i := 1119) (by decide +kernel)⟩
theorem lw_p58 : lw_okq (⟨"NameRailModel", "must", "(Z)V"⟩, 22) := ⟨⟨by decide +kernel, by decide +kernel⟩, List.mem_of_getElem? (i := 689) (by decide +kernel), List.mem_of_getElem? (i := 1124) (by decide +kernel), List.mem_of_getElem? (i := 1125) (by decide +kernel)⟩
theorem lw_p59 : lw_okq (⟨"NameRailModel", "number", "(II)I"⟩, 22) := ⟨⟨by decide +kernel, by decide +kernel⟩, List.mem_of_getElem? (i := 689) (by decide +kernel), List.mem_of_getElem? (i := 1128) (by decide +kernel), List.mem_of_getElem? (i := 1129) (by decide +kernel)⟩
theorem lw_p60 : lw_okq (⟨"NameRailModel", "afterWord", "(Ljava/lang/String;II)I"⟩, 22) := ⟨⟨by decide +kernel, by decide +kernel⟩, List.mem_of_getElem? (i := 689) (by decide +kernel), List.mem_of_getElem? (i := 1133) (by decide +kernel), List.mem_of_getElem? (i := 1134) (by decide +kernel)⟩
theorem lw_p61 : lw_okq (⟨"NameRailModel", "item", "(IIII)V"⟩, 22) := ⟨⟨by decide +kernel, by decide +kernel⟩, List.mem_of_getElem? (i := 689) (by decide +kernel), List.mem_of_getElem? (i := 1138) (by decide +kernel), List.mem_of_getElem? (i := 1139) (by decide +kernel)⟩
theorem lw_p62 : lw_okq (⟨"NameRailModel", "isToldSo", "(I)I"⟩, 22) := ⟨⟨by decide +kernel, by decide +kernel⟩, List.mem_of_getElem? (i := 689) (by decide +kernel), List.mem_of_getElem? (i := 1146) (by decide +kernel), List.mem_of_getElem? (i := 1147) (by decide +kernel)⟩
def lw_privs_4 : List (MethodName × Nat) := [(⟨"NameRailModel", "putBackPurses", "()I"⟩, 22), (⟨"NameRailModel", "lacks", "(I)I"⟩, 22), (⟨"NameRailModel", "fitting", "(II)I"⟩, 22), (⟨"NameRailModel", "wentSo", "(II)Z"⟩, 22), (⟨"NameRailModel", "drawnNumber", "()I"⟩, 22), (⟨"NameRailModel", "next", "()V"⟩, 22), (⟨"NameRailModel", "byteAt", "(I)I"⟩, 22), (⟨"NameRailModel", "readItem", "()V"⟩, 22), (⟨"NameRailModel", "kindTold", "()I"⟩, 22), (⟨"NameRailModel", "isWord", "(Ljava/lang/String;)Z"⟩, 22), (⟨"NameRailModel", "must", "(Z)V"⟩, 22), (⟨"NameRailModel", "number", "(II)I"⟩, 22), (⟨"NameRailModel", "afterWord", "(Ljava/lang/String;II)I"⟩, 22), (⟨"NameRailModel", "item", "(IIII)V"⟩, 22), (⟨"NameRailModel", "isToldSo", "(I)I"⟩, 22)]
theorem lw_r4 : ∀ q ∈ lw_privs_4, lw_okq q := List.forall_mem_cons.mpr ⟨lw_p48, List.forall_mem_cons.mpr ⟨lw_p49, List.forall_mem_cons.mpr ⟨lw_p50, List.forall_mem_cons.mpr ⟨lw_p51, List.forall_mem_cons.mpr ⟨lw_p52, List.forall_mem_cons.mpr ⟨lw_p53, List.forall_mem_cons.mpr ⟨lw_p54, List.forall_mem_cons.mpr ⟨lw_p55, List.forall_mem_cons.mpr ⟨lw_p56, List.forall_mem_cons.mpr ⟨lw_p57, List.forall_mem_cons.mpr ⟨lw_p58, List.forall_mem_cons.mpr ⟨lw_p59, List.forall_mem_cons.mpr ⟨lw_p60, List.forall_mem_cons.mpr ⟨lw_p61, List.forall_mem_cons.mpr ⟨lw_p62, fun _ h => absurd h List.not_mem_nil⟩⟩⟩⟩⟩⟩⟩⟩⟩⟩⟩⟩⟩⟩⟩
def lw_privs : List (MethodName × Nat) := lw_privs_1 ++ (lw_privs_2 ++ (lw_privs_3 ++ (lw_privs_4)))
def lw_tbl : List Cond := k2_sels lw_privs ++ tables_1
theorem lw_privs_ok : ∀ q ∈ lw_privs, lw_okq q := by
  show ∀ q ∈ lw_privs_1 ++ (lw_privs_2 ++ (lw_privs_3 ++ (lw_privs_4))), lw_okq q
  exact List.forall_mem_append.mpr ⟨lw_r1, List.forall_mem_append.mpr ⟨lw_r2, List.forall_mem_append.mpr ⟨lw_r3, lw_r4⟩⟩⟩

def RX0 : String := "NameRail$House"
def TX0 : u_T := fun k => match k with
  | 0 => ("NameRail$House", "names", "I", false)
  | 1 => ("NameRail$House", "kind", "[I", true)
  | 2 => ("NameRail$House", "duty", "[I", true)
  | 3 => ("NameRail$House", "wear", "[I", true)
  | 4 => ("NameRail$House", "debt", "[I", true)
  | 5 => ("NameRail$House", "foe", "[I", true)
  | 6 => ("NameRail$House", "purse", "[I", true)
  | 7 => ("NameRail$House", "wish", "[I", true)
  | 8 => ("NameRail$House", "spots", "[I", true)
  | 9 => ("NameRail$House", "order", "I", false)
  | 10 => ("NameRail$House", "day", "I", false)
  | 11 => ("NameRail$House", "quarrels", "I", false)
  | 12 => ("NameRail$House", "z", "I", false)
  | 13 => ("NameRail$House", "line", "[I", true)
  | _ => ("NameRail$House", "drawn", "[I", true)
def tyX0 : Nat → FieldType := fun k => match k with
  | 0 => .int
  | 1 => .array .int
  | 2 => .array .int
  | 3 => .array .int
  | 4 => .array .int
  | 5 => .array .int
  | 6 => .array .int
  | 7 => .array .int
  | 8 => .array .int
  | 9 => .int
  | 10 => .int
  | 11 => .int
  | 12 => .int
  | 13 => .array .int
  | _ => .array .int
abbrev wsX00 : List Cond := u_ws RX0 TX0 15
theorem nmX0 : ∀ a, a < 15 → ∀ b, b < 15 → a ≠ b → (TX0 a).2.1 ≠ (TX0 b).2.1 := by decide +kernel
theorem tyX0_ok : ∀ k, k < 15 → parseFieldDescriptor (TX0 k).2.2.1 = some (tyX0 k) := by decide +kernel
abbrev cX0_init : ByteArray := prog_2_method_1_code
def yX0_init : MethodName := ⟨RX0, "<init>", "()V"⟩
abbrev cX0_become : ByteArray := prog_2_method_2_code
def yX0_become : MethodName := ⟨RX0, "become", "(LNameRail$House;)V"⟩
abbrev cX0_hangUp : ByteArray := prog_2_method_3_code
def yX0_hangUp : MethodName := ⟨RX0, "hangUp", "(IIII)I"⟩
abbrev cX0_due : ByteArray := prog_2_method_4_code
def yX0_due : MethodName := ⟨RX0, "due", "(I)I"⟩
abbrev cX0_hangs : ByteArray := prog_2_method_5_code
def yX0_hangs : MethodName := ⟨RX0, "hangs", "(I)Z"⟩
abbrev cX0_hanging : ByteArray := prog_2_method_6_code
def yX0_hanging : MethodName := ⟨RX0, "hanging", "()I"⟩
abbrev cX0_foesOf : ByteArray := prog_2_method_7_code
def yX0_foesOf : MethodName := ⟨RX0, "foesOf", "(I)I"⟩
abbrev cX0_pairsIn : ByteArray := prog_2_method_8_code
def yX0_pairsIn : MethodName := ⟨RX0, "pairsIn", "(I)I"⟩
abbrev cX0_isPeaceful : ByteArray := prog_2_method_9_code
def yX0_isPeaceful : MethodName := ⟨RX0, "isPeaceful", "(I)Z"⟩
abbrev cX0_purses : ByteArray := prog_2_method_10_code
def yX0_purses : MethodName := ⟨RX0, "purses", "()I"⟩
abbrev cX0_debts : ByteArray := prog_2_method_11_code
def yX0_debts : MethodName := ⟨RX0, "debts", "()I"⟩
abbrev cX0_spotsHeld : ByteArray := prog_2_method_12_code
def yX0_spotsHeld : MethodName := ⟨RX0, "spotsHeld", "()I"⟩
abbrev cX0_lineUp : ByteArray := prog_2_method_13_code
def yX0_lineUp : MethodName := ⟨RX0, "lineUp", "(I)V"⟩
abbrev cX0_placeOf : ByteArray := prog_2_method_14_code
def yX0_placeOf : MethodName := ⟨RX0, "placeOf", "(I)I"⟩
abbrev cX0_draw : ByteArray := prog_2_method_15_code
def yX0_draw : MethodName := ⟨RX0, "draw", "(I)V"⟩
abbrev cX0_draws : ByteArray := prog_2_method_16_code
def yX0_draws : MethodName := ⟨RX0, "draws", "(I)Z"⟩
abbrev cX0_duesDrawn : ByteArray := prog_2_method_17_code
def yX0_duesDrawn : MethodName := ⟨RX0, "duesDrawn", "()I"⟩
abbrev cX0_pairsDrawn : ByteArray := prog_2_method_18_code
def yX0_pairsDrawn : MethodName := ⟨RX0, "pairsDrawn", "()I"⟩
abbrev cX0_passDay : ByteArray := prog_2_method_19_code
def yX0_passDay : MethodName := ⟨RX0, "passDay", "()V"⟩
abbrev cX0_pay : ByteArray := prog_2_method_20_code
def yX0_pay : MethodName := ⟨RX0, "pay", "(II)V"⟩
abbrev cX0_fade : ByteArray := prog_2_method_21_code
def yX0_fade : MethodName := ⟨RX0, "fade", "(I)V"⟩
abbrev cX0_pass : ByteArray := prog_2_method_22_code
def yX0_pass : MethodName := ⟨RX0, "pass", "(I)V"⟩
abbrev cX0_daysHung : ByteArray := prog_2_method_23_code
def yX0_daysHung : MethodName := ⟨RX0, "daysHung", "(I)I"⟩
abbrev cX0_pays : ByteArray := prog_2_method_24_code
def yX0_pays : MethodName := ⟨RX0, "pays", "(LNameRail$Sheet;I)Z"⟩
abbrev cX0_moth : ByteArray := prog_2_method_25_code
def yX0_moth : MethodName := ⟨RX0, "moth", "()V"⟩
def RX1 : String := "NameRail$Kinds"
def TX1 : u_T := fun k => match k with
  | _ => ("", "", "", false)
def tyX1 : Nat → FieldType := fun k => match k with
  | _ => .int
abbrev wsX10 : List Cond := u_ws RX1 TX1 0
theorem nmX1 : ∀ a, a < 0 → ∀ b, b < 0 → a ≠ b → (TX1 a).2.1 ≠ (TX1 b).2.1 := by decide +kernel
theorem tyX1_ok : ∀ k, k < 0 → parseFieldDescriptor (TX1 k).2.2.1 = some (tyX1 k) := by decide +kernel
abbrev cX1_above : ByteArray := prog_3_method_2_code
def yX1_above : MethodName := ⟨RX1, "above", "(I)I"⟩
abbrev cX1_isUnder : ByteArray := prog_3_method_3_code
def yX1_isUnder : MethodName := ⟨RX1, "isUnder", "(II)Z"⟩
abbrev cX1_due : ByteArray := prog_3_method_4_code
def yX1_due : MethodName := ⟨RX1, "due", "(IIII)I"⟩
abbrev cX1_fades : ByteArray := prog_3_method_5_code
def yX1_fades : MethodName := ⟨RX1, "fades", "(I)I"⟩
def RX2 : String := "NameRail$Reader"
def TX2 : u_T := fun k => match k with
  | 0 => ("NameRail$Reader", "tape", "LNameRail$Tape;", false)
  | 1 => ("NameRail$Reader", "sort", "I", false)
  | 2 => ("NameRail$Reader", "first", "I", false)
  | 3 => ("NameRail$Reader", "behind", "I", false)
  | _ => ("NameRail$Reader", "value", "I", false)
def tyX2 : Nat → FieldType := fun k => match k with
  | 0 => .object "NameRail$Tape"
  | 1 => .int
  | 2 => .int
  | 3 => .int
  | _ => .int
abbrev wsX20 : List Cond := u_ws RX2 TX2 5
theorem nmX2 : ∀ a, a < 5 → ∀ b, b < 5 → a ≠ b → (TX2 a).2.1 ≠ (TX2 b).2.1 := by decide +kernel
theorem tyX2_ok : ∀ k, k < 5 → parseFieldDescriptor (TX2 k).2.2.1 = some (tyX2 k) := by decide +kernel
abbrev cX2_init : ByteArray := prog_4_method_1_code
def yX2_init : MethodName := ⟨RX2, "<init>", "()V"⟩
abbrev cX2_read : ByteArray := prog_4_method_2_code
def yX2_read : MethodName := ⟨RX2, "read", "(LNameRail$Tape;LNameRail$House;)I"⟩
abbrev cX2_step : ByteArray := prog_4_method_3_code
def yX2_step : MethodName := ⟨RX2, "step", "()V"⟩
abbrev cX2_stepWord : ByteArray := prog_4_method_4_code
def yX2_stepWord : MethodName := ⟨RX2, "stepWord", "()V"⟩
abbrev cX2_stepNumber : ByteArray := prog_4_method_5_code
def yX2_stepNumber : MethodName := ⟨RX2, "stepNumber", "()V"⟩
abbrev cX2_isLetter : ByteArray := prog_4_method_6_code
def yX2_isLetter : MethodName := ⟨RX2, "isLetter", "(I)Z"⟩
abbrev cX2_isDigit : ByteArray := prog_4_method_7_code
def yX2_isDigit : MethodName := ⟨RX2, "isDigit", "(I)Z"⟩
abbrev cX2_isWord : ByteArray := prog_4_method_8_code
def yX2_isWord : MethodName := ⟨RX2, "isWord", "(Ljava/lang/String;)Z"⟩
abbrev cX2_isNumberTo : ByteArray := prog_4_method_9_code
def yX2_isNumberTo : MethodName := ⟨RX2, "isNumberTo", "(I)Z"⟩
abbrev cX2_kindTold : ByteArray := prog_4_method_10_code
def yX2_kindTold : MethodName := ⟨RX2, "kindTold", "()I"⟩
abbrev cX2_item : ByteArray := prog_4_method_11_code
def yX2_item : MethodName := ⟨RX2, "item", "(LNameRail$House;)Z"⟩
abbrev cX2_nameItem : ByteArray := prog_4_method_12_code
def yX2_nameItem : MethodName := ⟨RX2, "nameItem", "(LNameRail$House;I)Z"⟩
abbrev cX2_personItem : ByteArray := prog_4_method_13_code
def yX2_personItem : MethodName := ⟨RX2, "personItem", "(LNameRail$House;)Z"⟩
abbrev cX2_orderItem : ByteArray := prog_4_method_14_code
def yX2_orderItem : MethodName := ⟨RX2, "orderItem", "(LNameRail$House;)Z"⟩
def RX3 : String := "NameRail$Sheet"
def TX3 : u_T := fun k => match k with
  | 0 => ("NameRail$Sheet", "numbers", "[I", true)
  | 1 => ("NameRail$Sheet", "bits", "I", false)
  | _ => ("NameRail$Sheet", "length", "I", false)
def tyX3 : Nat → FieldType := fun k => match k with
  | 0 => .array .int
  | 1 => .int
  | _ => .int
abbrev wsX30 : List Cond := u_ws RX3 TX3 3
theorem nmX3 : ∀ a, a < 3 → ∀ b, b < 3 → a ≠ b → (TX3 a).2.1 ≠ (TX3 b).2.1 := by decide +kernel
theorem tyX3_ok : ∀ k, k < 3 → parseFieldDescriptor (TX3 k).2.2.1 = some (tyX3 k) := by decide +kernel
abbrev cX3_init : ByteArray := prog_5_method_1_code
def yX3_init : MethodName := ⟨RX3, "<init>", "()V"⟩
abbrev cX3_layOut : ByteArray := prog_5_method_2_code
def yX3_layOut : MethodName := ⟨RX3, "layOut", "(II)V"⟩
abbrev cX3_put : ByteArray := prog_5_method_3_code
def yX3_put : MethodName := ⟨RX3, "put", "(II)V"⟩
abbrev cX3_has : ByteArray := prog_5_method_4_code
def yX3_has : MethodName := ⟨RX3, "has", "(II)Z"⟩
def RX4 : String := "NameRail$Tape"
def TX4 : u_T := fun k => match k with
  | 0 => ("NameRail$Tape", "bytes", "[I", true)
  | _ => ("NameRail$Tape", "length", "I", false)
def tyX4 : Nat → FieldType := fun k => match k with
  | 0 => .array .int
  | _ => .int
abbrev wsX40 : List Cond := u_ws RX4 TX4 2
theorem nmX4 : ∀ a, a < 2 → ∀ b, b < 2 → a ≠ b → (TX4 a).2.1 ≠ (TX4 b).2.1 := by decide +kernel
theorem tyX4_ok : ∀ k, k < 2 → parseFieldDescriptor (TX4 k).2.2.1 = some (tyX4 k) := by decide +kernel
abbrev cX4_init : ByteArray := prog_6_method_1_code
def yX4_init : MethodName := ⟨RX4, "<init>", "()V"⟩
abbrev cX4_append : ByteArray := prog_6_method_2_code
def yX4_append : MethodName := ⟨RX4, "append", "(I)V"⟩
abbrev cX4_byteAt : ByteArray := prog_6_method_3_code
def yX4_byteAt : MethodName := ⟨RX4, "byteAt", "(I)I"⟩
def RX5 : String := "NameRail"
def TX5 : u_T := fun k => match k with
  | 0 => ("NameRail", "house", "LNameRail$House;", true)
  | 1 => ("NameRail", "kept", "LNameRail$House;", true)
  | 2 => ("NameRail", "trial", "LNameRail$House;", true)
  | 3 => ("NameRail", "tape", "LNameRail$Tape;", true)
  | 4 => ("NameRail", "reader", "LNameRail$Reader;", true)
  | 5 => ("NameRail", "sheets", "[LNameRail$Sheet;", true)
  | 6 => ("NameRail", "found", "[I", true)
  | _ => ("NameRail", "keeps", "Z", false)
def tyX5 : Nat → FieldType := fun k => match k with
  | 0 => .object "NameRail$House"
  | 1 => .object "NameRail$House"
  | 2 => .object "NameRail$House"
  | 3 => .object "NameRail$Tape"
  | 4 => .object "NameRail$Reader"
  | 5 => .array (.object "NameRail$Sheet")
  | 6 => .array .int
  | _ => .boolean
abbrev wsX50 : List Cond := u_ws RX5 TX5 8
theorem nmX5 : ∀ a, a < 8 → ∀ b, b < 8 → a ≠ b → (TX5 a).2.1 ≠ (TX5 b).2.1 := by decide +kernel
theorem tyX5_ok : ∀ k, k < 8 → parseFieldDescriptor (TX5 k).2.2.1 = some (tyX5 k) := by decide +kernel
abbrev cX5_init : ByteArray := prog_1_method_1_code
def yX5_init : MethodName := ⟨RX5, "<init>", "()V"⟩
abbrev cX5_name : ByteArray := prog_1_method_2_code
def yX5_name : MethodName := ⟨RX5, "name", "(II)I"⟩
abbrev cX5_of : ByteArray := prog_1_method_3_code
def yX5_of : MethodName := ⟨RX5, "of", "(II)I"⟩
abbrev cX5_change : ByteArray := prog_1_method_4_code
def yX5_change : MethodName := ⟨RX5, "change", "(III)I"⟩
abbrev cX5_person : ByteArray := prog_1_method_5_code
def yX5_person : MethodName := ⟨RX5, "person", "(III)I"⟩
abbrev cX5_personOf : ByteArray := prog_1_method_6_code
def yX5_personOf : MethodName := ⟨RX5, "personOf", "(II)I"⟩
abbrev cX5_order : ByteArray := prog_1_method_7_code
def yX5_order : MethodName := ⟨RX5, "order", "(I)I"⟩
abbrev cX5_at : ByteArray := prog_1_method_8_code
def yX5_at : MethodName := ⟨RX5, "at", "(II)I"⟩
abbrev cX5_go : ByteArray := prog_1_method_9_code
def yX5_go : MethodName := ⟨RX5, "go", "(I)I"⟩
abbrev cX5_now : ByteArray := prog_1_method_10_code
def yX5_now : MethodName := ⟨RX5, "now", "(I)I"⟩
abbrev cX5_mend : ByteArray := prog_1_method_11_code
def yX5_mend : MethodName := ⟨RX5, "mend", "(III)I"⟩
abbrev cX5_wears : ByteArray := prog_1_method_12_code
def yX5_wears : MethodName := ⟨RX5, "wears", "(I)I"⟩
abbrev cX5_ahead : ByteArray := prog_1_method_13_code
def yX5_ahead : MethodName := ⟨RX5, "ahead", "(II)I"⟩
abbrev cX5_owes : ByteArray := prog_1_method_14_code
def yX5_owes : MethodName := ⟨RX5, "owes", "(II)I"⟩
abbrev cX5_lasts : ByteArray := prog_1_method_15_code
def yX5_lasts : MethodName := ⟨RX5, "lasts", "(I)I"⟩
abbrev cX5_broke : ByteArray := prog_1_method_16_code
def yX5_broke : MethodName := ⟨RX5, "broke", "(I)I"⟩
abbrev cX5_often : ByteArray := prog_1_method_17_code
def yX5_often : MethodName := ⟨RX5, "often", "(III)I"⟩
abbrev cX5_kindFor : ByteArray := prog_1_method_18_code
def yX5_kindFor : MethodName := ⟨RX5, "kindFor", "(I)I"⟩
abbrev cX5_orderFor : ByteArray := prog_1_method_19_code
def yX5_orderFor : MethodName := ⟨RX5, "orderFor", "(II)I"⟩
abbrev cX5_orders : ByteArray := prog_1_method_20_code
def yX5_orders : MethodName := ⟨RX5, "orders", "(II)I"⟩
abbrev cX5_cheapest : ByteArray := prog_1_method_21_code
def yX5_cheapest : MethodName := ⟨RX5, "cheapest", "()I"⟩
abbrev cX5_calmest : ByteArray := prog_1_method_22_code
def yX5_calmest : MethodName := ⟨RX5, "calmest", "()I"⟩
abbrev cX5_best : ByteArray := prog_1_method_23_code
def yX5_best : MethodName := ⟨RX5, "best", "(II)I"⟩
abbrev cX5_wishFor : ByteArray := prog_1_method_24_code
def yX5_wishFor : MethodName := ⟨RX5, "wishFor", "(II)I"⟩
abbrev cX5_peace : ByteArray := prog_1_method_25_code
def yX5_peace : MethodName := ⟨RX5, "peace", "()I"⟩
abbrev cX5_peaceful : ByteArray := prog_1_method_26_code
def yX5_peaceful : MethodName := ⟨RX5, "peaceful", "(I)I"⟩
abbrev cX5_groups : ByteArray := prog_1_method_27_code
def yX5_groups : MethodName := ⟨RX5, "groups", "()I"⟩
abbrev cX5_mendFor : ByteArray := prog_1_method_28_code
def yX5_mendFor : MethodName := ⟨RX5, "mendFor", "(I)I"⟩
abbrev cX5_without : ByteArray := prog_1_method_29_code
def yX5_without : MethodName := ⟨RX5, "without", "(I)I"⟩
abbrev cX5_fits : ByteArray := prog_1_method_30_code
def yX5_fits : MethodName := ⟨RX5, "fits", "(II)I"⟩
abbrev cX5_wish : ByteArray := prog_1_method_31_code
def yX5_wish : MethodName := ⟨RX5, "wish", "(II)I"⟩
abbrev cX5_moths : ByteArray := prog_1_method_32_code
def yX5_moths : MethodName := ⟨RX5, "moths", "(I)I"⟩
abbrev cX5_odds : ByteArray := prog_1_method_33_code
def yX5_odds : MethodName := ⟨RX5, "odds", "(II)J"⟩
abbrev cX5_seed : ByteArray := prog_1_method_34_code
def yX5_seed : MethodName := ⟨RX5, "seed", "(I)I"⟩
abbrev cX5_feed : ByteArray := prog_1_method_35_code
def yX5_feed : MethodName := ⟨RX5, "feed", "(II)I"⟩
abbrev cX5_wipe : ByteArray := prog_1_method_36_code
def yX5_wipe : MethodName := ⟨RX5, "wipe", "()I"⟩
abbrev cX5_text : ByteArray := prog_1_method_37_code
def yX5_text : MethodName := ⟨RX5, "text", "()I"⟩
abbrev cX5_hold : ByteArray := prog_1_method_38_code
def yX5_hold : MethodName := ⟨RX5, "hold", "(II)I"⟩
abbrev cX5_as : ByteArray := prog_1_method_39_code
def yX5_as : MethodName := ⟨RX5, "as", "(II)I"⟩
abbrev cX5_sheet : ByteArray := prog_1_method_40_code
def yX5_sheet : MethodName := ⟨RX5, "sheet", "(III)I"⟩
abbrev cX5_write : ByteArray := prog_1_method_41_code
def yX5_write : MethodName := ⟨RX5, "write", "(III)I"⟩
abbrev cX5_copy : ByteArray := prog_1_method_42_code
def yX5_copy : MethodName := ⟨RX5, "copy", "(IIIII)I"⟩
abbrev cX5_load : ByteArray := prog_1_method_43_code
def yX5_load : MethodName := ⟨RX5, "load", "(I)I"⟩
abbrev cX5_judge : ByteArray := prog_1_method_44_code
def yX5_judge : MethodName := ⟨RX5, "judge", "(I)I"⟩
abbrev cX5_image : ByteArray := prog_1_method_45_code
def yX5_image : MethodName := ⟨RX5, "image", "()I"⟩
abbrev cX5_undo : ByteArray := prog_1_method_46_code
def yX5_undo : MethodName := ⟨RX5, "undo", "()I"⟩
abbrev cX5_tear : ByteArray := prog_1_method_47_code
def yX5_tear : MethodName := ⟨RX5, "tear", "()I"⟩
abbrev cX5_count : ByteArray := prog_1_method_48_code
def yX5_count : MethodName := ⟨RX5, "count", "(I)I"⟩
abbrev cX5_status : ByteArray := prog_1_method_49_code
def yX5_status : MethodName := ⟨RX5, "status", "(I)I"⟩
abbrev cX5_finding : ByteArray := prog_1_method_50_code
def yX5_finding : MethodName := ⟨RX5, "finding", "(I)I"⟩
abbrev cX5_within : ByteArray := prog_1_method_51_code
def yX5_within : MethodName := ⟨RX5, "within", "(III)Z"⟩
abbrev cX5_isIn : ByteArray := prog_1_method_52_code
def yX5_isIn : MethodName := ⟨RX5, "isIn", "(II)Z"⟩
abbrev cX5_lowest : ByteArray := prog_1_method_53_code
def yX5_lowest : MethodName := ⟨RX5, "lowest", "(I)I"⟩
abbrev cX5_isName : ByteArray := prog_1_method_54_code
def yX5_isName : MethodName := ⟨RX5, "isName", "(I)Z"⟩
abbrev cX5_isNameOrNone : ByteArray := prog_1_method_55_code
def yX5_isNameOrNone : MethodName := ⟨RX5, "isNameOrNone", "(I)Z"⟩
abbrev cX5_isPerson : ByteArray := prog_1_method_56_code
def yX5_isPerson : MethodName := ⟨RX5, "isPerson", "(I)Z"⟩
abbrev cX5_isOrder : ByteArray := prog_1_method_57_code
def yX5_isOrder : MethodName := ⟨RX5, "isOrder", "(I)Z"⟩
abbrev cX5_isSheet : ByteArray := prog_1_method_58_code
def yX5_isSheet : MethodName := ⟨RX5, "isSheet", "(I)Z"⟩
abbrev cX5_changed : ByteArray := prog_1_method_59_code
def yX5_changed : MethodName := ⟨RX5, "changed", "([IIIZ)I"⟩
abbrev cX5_richestWith : ByteArray := prog_1_method_60_code
def yX5_richestWith : MethodName := ⟨RX5, "richestWith", "(II)I"⟩
abbrev cX5_faultOfFit : ByteArray := prog_1_method_61_code
def yX5_faultOfFit : MethodName := ⟨RX5, "faultOfFit", "(II)I"⟩
abbrev cX5_fitting : ByteArray := prog_1_method_62_code
def yX5_fitting : MethodName := ⟨RX5, "fitting", "(LNameRail$Sheet;I)I"⟩
def RX6 : String := "NameRailModel"
def TX6 : u_T := fun k => match k with
  | 0 => ("NameRailModel", "now", "[I", true)
  | 1 => ("NameRailModel", "kept", "[I", true)
  | 2 => ("NameRailModel", "aside", "[I", true)
  | 3 => ("NameRailModel", "isKept", "Z", false)
  | 4 => ("NameRailModel", "found", "[I", true)
  | 5 => ("NameRailModel", "drawn", "[I", true)
  | 6 => ("NameRailModel", "groupsOf", "[I", true)
  | 7 => ("NameRailModel", "tape", "[I", true)
  | 8 => ("NameRailModel", "taped", "I", false)
  | 9 => ("NameRailModel", "begins", "I", false)
  | 10 => ("NameRailModel", "ends", "I", false)
  | 11 => ("NameRailModel", "sort", "I", false)
  | 12 => ("NameRailModel", "value", "I", false)
  | 13 => ("NameRailModel", "isWrong", "Z", false)
  | 14 => ("NameRailModel", "kindNames", "[Ljava/lang/String;", true)
  | 15 => ("NameRailModel", "items", "[I", true)
  | 16 => ("NameRailModel", "itemMany", "I", false)
  | 17 => ("NameRailModel", "nameThen", "I", false)
  | 18 => ("NameRailModel", "widths", "[I", true)
  | 19 => ("NameRailModel", "sizes", "[I", true)
  | 20 => ("NameRailModel", "numbers", "[I", true)
  | _ => ("NameRailModel", "moved", "[I", true)
def tyX6 : Nat → FieldType := fun k => match k with
  | 0 => .array .int
  | 1 => .array .int
  | 2 => .array .int
  | 3 => .boolean
  | 4 => .array .int
  | 5 => .array .int
  | 6 => .array .int
  | 7 => .array .int
  | 8 => .int
  | 9 => .int
  | 10 => .int
  | 11 => .int
  | 12 => .int
  | 13 => .boolean
  | 14 => .array (.object "java/lang/String")
  | 15 => .array .int
  | 16 => .int
  | 17 => .int
  | 18 => .array .int
  | 19 => .array .int
  | 20 => .array .int
  | _ => .array .int
abbrev wsX60 : List Cond := u_ws RX6 TX6 22
theorem nmX6 : ∀ a, a < 22 → ∀ b, b < 22 → a ≠ b → (TX6 a).2.1 ≠ (TX6 b).2.1 := by decide +kernel
theorem tyX6_ok : ∀ k, k < 22 → parseFieldDescriptor (TX6 k).2.2.1 = some (tyX6 k) := by decide +kernel
abbrev cX6_init : ByteArray := prog_8_method_1_code
def yX6_init : MethodName := ⟨RX6, "<init>", "()V"⟩
abbrev cX6_finding : ByteArray := prog_8_method_2_code
def yX6_finding : MethodName := ⟨RX6, "finding", "(I)I"⟩
abbrev cX6_within : ByteArray := prog_8_method_3_code
def yX6_within : MethodName := ⟨RX6, "within", "(III)Z"⟩
abbrev cX6_become : ByteArray := prog_8_method_4_code
def yX6_become : MethodName := ⟨RX6, "become", "(II)I"⟩
abbrev cX6_copyRow : ByteArray := prog_8_method_5_code
def yX6_copyRow : MethodName := ⟨RX6, "copyRow", "([I[I)V"⟩
abbrev cX6_putBack : ByteArray := prog_8_method_6_code
def yX6_putBack : MethodName := ⟨RX6, "putBack", "(I)I"⟩
abbrev cX6_orNone : ByteArray := prog_8_method_7_code
def yX6_orNone : MethodName := ⟨RX6, "orNone", "(I)I"⟩
abbrev cX6_has : ByteArray := prog_8_method_8_code
def yX6_has : MethodName := ⟨RX6, "has", "(II)Z"⟩
abbrev cX6_bits : ByteArray := prog_8_method_9_code
def yX6_bits : MethodName := ⟨RX6, "bits", "(I)I"⟩
abbrev cX6_isName : ByteArray := prog_8_method_10_code
def yX6_isName : MethodName := ⟨RX6, "isName", "(I)Z"⟩
abbrev cX6_isPerson : ByteArray := prog_8_method_11_code
def yX6_isPerson : MethodName := ⟨RX6, "isPerson", "(I)Z"⟩
abbrev cX6_isKind : ByteArray := prog_8_method_12_code
def yX6_isKind : MethodName := ⟨RX6, "isKind", "(I)Z"⟩
abbrev cX6_place : ByteArray := prog_8_method_13_code
def yX6_place : MethodName := ⟨RX6, "place", "(II)I"⟩
abbrev cX6_nameIs : ByteArray := prog_8_method_14_code
def yX6_nameIs : MethodName := ⟨RX6, "nameIs", "(II)I"⟩
abbrev cX6_comes : ByteArray := prog_8_method_15_code
def yX6_comes : MethodName := ⟨RX6, "comes", "(IIII)I"⟩
abbrev cX6_name : ByteArray := prog_8_method_16_code
def yX6_name : MethodName := ⟨RX6, "name", "(II)I"⟩
abbrev cX6_dueOf : ByteArray := prog_8_method_17_code
def yX6_dueOf : MethodName := ⟨RX6, "dueOf", "(I)I"⟩
abbrev cX6_fadesBy : ByteArray := prog_8_method_18_code
def yX6_fadesBy : MethodName := ⟨RX6, "fadesBy", "(I)I"⟩
abbrev cX6_hangs : ByteArray := prog_8_method_19_code
def yX6_hangs : MethodName := ⟨RX6, "hangs", "(I)Z"⟩
abbrev cX6_doQuarrel : ByteArray := prog_8_method_20_code
def yX6_doQuarrel : MethodName := ⟨RX6, "doQuarrel", "(II)Z"⟩
abbrev cX6_foesOf : ByteArray := prog_8_method_21_code
def yX6_foesOf : MethodName := ⟨RX6, "foesOf", "(I)I"⟩
abbrev cX6_of : ByteArray := prog_8_method_22_code
def yX6_of : MethodName := ⟨RX6, "of", "(II)I"⟩
abbrev cX6_mayBe : ByteArray := prog_8_method_23_code
def yX6_mayBe : MethodName := ⟨RX6, "mayBe", "(III)Z"⟩
abbrev cX6_change : ByteArray := prog_8_method_24_code
def yX6_change : MethodName := ⟨RX6, "change", "(III)I"⟩
abbrev cX6_isPurse : ByteArray := prog_8_method_25_code
def yX6_isPurse : MethodName := ⟨RX6, "isPurse", "(I)Z"⟩
abbrev cX6_person : ByteArray := prog_8_method_26_code
def yX6_person : MethodName := ⟨RX6, "person", "(III)I"⟩
abbrev cX6_isOrder : ByteArray := prog_8_method_27_code
def yX6_isOrder : MethodName := ⟨RX6, "isOrder", "(I)Z"⟩
abbrev cX6_standsAt : ByteArray := prog_8_method_28_code
def yX6_standsAt : MethodName := ⟨RX6, "standsAt", "(II)I"⟩
abbrev cX6_placeOf : ByteArray := prog_8_method_29_code
def yX6_placeOf : MethodName := ⟨RX6, "placeOf", "(I)I"⟩
abbrev cX6_personOf : ByteArray := prog_8_method_30_code
def yX6_personOf : MethodName := ⟨RX6, "personOf", "(II)I"⟩
abbrev cX6_order : ByteArray := prog_8_method_31_code
def yX6_order : MethodName := ⟨RX6, "order", "(I)I"⟩
abbrev cX6_at : ByteArray := prog_8_method_32_code
def yX6_at : MethodName := ⟨RX6, "at", "(II)I"⟩
abbrev cX6_leastLeft : ByteArray := prog_8_method_33_code
def yX6_leastLeft : MethodName := ⟨RX6, "leastLeft", "(I)I"⟩
abbrev cX6_drawBy : ByteArray := prog_8_method_34_code
def yX6_drawBy : MethodName := ⟨RX6, "drawBy", "(I)I"⟩
abbrev cX6_quarrelsIn : ByteArray := prog_8_method_35_code
def yX6_quarrelsIn : MethodName := ⟨RX6, "quarrelsIn", "(I)I"⟩
abbrev cX6_pays : ByteArray := prog_8_method_36_code
def yX6_pays : MethodName := ⟨RX6, "pays", "(I)V"⟩
abbrev cX6_day : ByteArray := prog_8_method_37_code
def yX6_day : MethodName := ⟨RX6, "day", "()V"⟩
abbrev cX6_days : ByteArray := prog_8_method_38_code
def yX6_days : MethodName := ⟨RX6, "days", "(I)V"⟩
abbrev cX6_purses : ByteArray := prog_8_method_39_code
def yX6_purses : MethodName := ⟨RX6, "purses", "()I"⟩
abbrev cX6_go : ByteArray := prog_8_method_40_code
def yX6_go : MethodName := ⟨RX6, "go", "(I)I"⟩
abbrev cX6_hungNow : ByteArray := prog_8_method_41_code
def yX6_hungNow : MethodName := ⟨RX6, "hungNow", "()I"⟩
abbrev cX6_debts : ByteArray := prog_8_method_42_code
def yX6_debts : MethodName := ⟨RX6, "debts", "()I"⟩
abbrev cX6_now : ByteArray := prog_8_method_43_code
def yX6_now : MethodName := ⟨RX6, "now", "(I)I"⟩
abbrev cX6_mend : ByteArray := prog_8_method_44_code
def yX6_mend : MethodName := ⟨RX6, "mend", "(III)I"⟩
abbrev cX6_wears : ByteArray := prog_8_method_45_code
def yX6_wears : MethodName := ⟨RX6, "wears", "(I)I"⟩
abbrev cX6_behind : ByteArray := prog_8_method_46_code
def yX6_behind : MethodName := ⟨RX6, "behind", "(II)I"⟩
abbrev cX6_ahead : ByteArray := prog_8_method_47_code
def yX6_ahead : MethodName := ⟨RX6, "ahead", "(II)I"⟩
abbrev cX6_owes : ByteArray := prog_8_method_48_code
def yX6_owes : MethodName := ⟨RX6, "owes", "(II)I"⟩
abbrev cX6_hungFor : ByteArray := prog_8_method_49_code
def yX6_hungFor : MethodName := ⟨RX6, "hungFor", "(I)I"⟩
abbrev cX6_lasts : ByteArray := prog_8_method_50_code
def yX6_lasts : MethodName := ⟨RX6, "lasts", "(I)I"⟩
abbrev cX6_broke : ByteArray := prog_8_method_51_code
def yX6_broke : MethodName := ⟨RX6, "broke", "(I)I"⟩
abbrev cX6_often : ByteArray := prog_8_method_52_code
def yX6_often : MethodName := ⟨RX6, "often", "(III)I"⟩
abbrev cX6_kindFor : ByteArray := prog_8_method_53_code
def yX6_kindFor : MethodName := ⟨RX6, "kindFor", "(I)I"⟩
abbrev cX6_doesDraw : ByteArray := prog_8_method_54_code
def yX6_doesDraw : MethodName := ⟨RX6, "doesDraw", "(III)Z"⟩
abbrev cX6_orderFor : ByteArray := prog_8_method_55_code
def yX6_orderFor : MethodName := ⟨RX6, "orderFor", "(II)I"⟩
abbrev cX6_orders : ByteArray := prog_8_method_56_code
def yX6_orders : MethodName := ⟨RX6, "orders", "(II)I"⟩
abbrev cX6_duesIn : ByteArray := prog_8_method_57_code
def yX6_duesIn : MethodName := ⟨RX6, "duesIn", "(I)I"⟩
abbrev cX6_leastOrder : ByteArray := prog_8_method_58_code
def yX6_leastOrder : MethodName := ⟨RX6, "leastOrder", "(Z)I"⟩
abbrev cX6_cheapest : ByteArray := prog_8_method_59_code
def yX6_cheapest : MethodName := ⟨RX6, "cheapest", "()I"⟩
abbrev cX6_calmest : ByteArray := prog_8_method_60_code
def yX6_calmest : MethodName := ⟨RX6, "calmest", "()I"⟩
abbrev cX6_greatest : ByteArray := prog_8_method_61_code
def yX6_greatest : MethodName := ⟨RX6, "greatest", "(IIIII)I"⟩
abbrev cX6_best : ByteArray := prog_8_method_62_code
def yX6_best : MethodName := ⟨RX6, "best", "(II)I"⟩
abbrev cX6_wishFor : ByteArray := prog_8_method_63_code
def yX6_wishFor : MethodName := ⟨RX6, "wishFor", "(II)I"⟩
abbrev cX6_isPeace : ByteArray := prog_8_method_64_code
def yX6_isPeace : MethodName := ⟨RX6, "isPeace", "(I)Z"⟩
abbrev cX6_peace : ByteArray := prog_8_method_65_code
def yX6_peace : MethodName := ⟨RX6, "peace", "()I"⟩
abbrev cX6_peaceful : ByteArray := prog_8_method_66_code
def yX6_peaceful : MethodName := ⟨RX6, "peaceful", "(I)I"⟩
abbrev cX6_groups : ByteArray := prog_8_method_67_code
def yX6_groups : MethodName := ⟨RX6, "groups", "()I"⟩
abbrev cX6_pursesBy : ByteArray := prog_8_method_68_code
def yX6_pursesBy : MethodName := ⟨RX6, "pursesBy", "(II)I"⟩
abbrev cX6_putBackPurses : ByteArray := prog_8_method_69_code
def yX6_putBackPurses : MethodName := ⟨RX6, "putBackPurses", "()I"⟩
abbrev cX6_mendFor : ByteArray := prog_8_method_70_code
def yX6_mendFor : MethodName := ⟨RX6, "mendFor", "(I)I"⟩
abbrev cX6_without : ByteArray := prog_8_method_71_code
def yX6_without : MethodName := ⟨RX6, "without", "(I)I"⟩
abbrev cX6_lacks : ByteArray := prog_8_method_72_code
def yX6_lacks : MethodName := ⟨RX6, "lacks", "(I)I"⟩
abbrev cX6_wentSo : ByteArray := prog_8_method_73_code
def yX6_wentSo : MethodName := ⟨RX6, "wentSo", "(II)Z"⟩
abbrev cX6_fitting : ByteArray := prog_8_method_74_code
def yX6_fitting : MethodName := ⟨RX6, "fitting", "(II)I"⟩
abbrev cX6_fits : ByteArray := prog_8_method_75_code
def yX6_fits : MethodName := ⟨RX6, "fits", "(II)I"⟩
abbrev cX6_wish : ByteArray := prog_8_method_76_code
def yX6_wish : MethodName := ⟨RX6, "wish", "(II)I"⟩
abbrev cX6_drawnNumber : ByteArray := prog_8_method_77_code
def yX6_drawnNumber : MethodName := ⟨RX6, "drawnNumber", "()I"⟩
abbrev cX6_moths : ByteArray := prog_8_method_78_code
def yX6_moths : MethodName := ⟨RX6, "moths", "(I)I"⟩
abbrev cX6_odds : ByteArray := prog_8_method_79_code
def yX6_odds : MethodName := ⟨RX6, "odds", "(II)J"⟩
abbrev cX6_seed : ByteArray := prog_8_method_80_code
def yX6_seed : MethodName := ⟨RX6, "seed", "(I)I"⟩
abbrev cX6_feed : ByteArray := prog_8_method_81_code
def yX6_feed : MethodName := ⟨RX6, "feed", "(II)I"⟩
abbrev cX6_wipe : ByteArray := prog_8_method_82_code
def yX6_wipe : MethodName := ⟨RX6, "wipe", "()I"⟩
abbrev cX6_byteAt : ByteArray := prog_8_method_83_code
def yX6_byteAt : MethodName := ⟨RX6, "byteAt", "(I)I"⟩
abbrev cX6_next : ByteArray := prog_8_method_84_code
def yX6_next : MethodName := ⟨RX6, "next", "()V"⟩
abbrev cX6_isWord : ByteArray := prog_8_method_85_code
def yX6_isWord : MethodName := ⟨RX6, "isWord", "(Ljava/lang/String;)Z"⟩
abbrev cX6_must : ByteArray := prog_8_method_86_code
def yX6_must : MethodName := ⟨RX6, "must", "(Z)V"⟩
abbrev cX6_number : ByteArray := prog_8_method_87_code
def yX6_number : MethodName := ⟨RX6, "number", "(II)I"⟩
abbrev cX6_item : ByteArray := prog_8_method_88_code
def yX6_item : MethodName := ⟨RX6, "item", "(IIII)V"⟩
abbrev cX6_kindTold : ByteArray := prog_8_method_89_code
def yX6_kindTold : MethodName := ⟨RX6, "kindTold", "()I"⟩
abbrev cX6_afterWord : ByteArray := prog_8_method_90_code
def yX6_afterWord : MethodName := ⟨RX6, "afterWord", "(Ljava/lang/String;II)I"⟩
abbrev cX6_readItem : ByteArray := prog_8_method_91_code
def yX6_readItem : MethodName := ⟨RX6, "readItem", "()V"⟩
abbrev cX6_isToldSo : ByteArray := prog_8_method_92_code
def yX6_isToldSo : MethodName := ⟨RX6, "isToldSo", "(I)I"⟩
abbrev cX6_text : ByteArray := prog_8_method_93_code
def yX6_text : MethodName := ⟨RX6, "text", "()I"⟩
abbrev cX6_isSpot : ByteArray := prog_8_method_94_code
def yX6_isSpot : MethodName := ⟨RX6, "isSpot", "(I)Z"⟩
abbrev cX6_hold : ByteArray := prog_8_method_95_code
def yX6_hold : MethodName := ⟨RX6, "hold", "(II)I"⟩
abbrev cX6_as : ByteArray := prog_8_method_96_code
def yX6_as : MethodName := ⟨RX6, "as", "(II)I"⟩
abbrev cX6_isSheet : ByteArray := prog_8_method_97_code
def yX6_isSheet : MethodName := ⟨RX6, "isSheet", "(I)Z"⟩
abbrev cX6_cutTo : ByteArray := prog_8_method_98_code
def yX6_cutTo : MethodName := ⟨RX6, "cutTo", "(II)I"⟩
abbrev cX6_sheet : ByteArray := prog_8_method_99_code
def yX6_sheet : MethodName := ⟨RX6, "sheet", "(III)I"⟩
abbrev cX6_write : ByteArray := prog_8_method_100_code
def yX6_write : MethodName := ⟨RX6, "write", "(III)I"⟩
abbrev cX6_copy : ByteArray := prog_8_method_101_code
def yX6_copy : MethodName := ⟨RX6, "copy", "(IIIII)I"⟩
abbrev cX6_above : ByteArray := prog_8_method_102_code
def yX6_above : MethodName := ⟨RX6, "above", "(I)I"⟩
abbrev cX6_isUnder : ByteArray := prog_8_method_103_code
def yX6_isUnder : MethodName := ⟨RX6, "isUnder", "(II)Z"⟩
abbrev cX6_load : ByteArray := prog_8_method_104_code
def yX6_load : MethodName := ⟨RX6, "load", "(I)I"⟩
abbrev cX6_judge : ByteArray := prog_8_method_105_code
def yX6_judge : MethodName := ⟨RX6, "judge", "(I)I"⟩
abbrev cX6_image : ByteArray := prog_8_method_106_code
def yX6_image : MethodName := ⟨RX6, "image", "()I"⟩
abbrev cX6_undo : ByteArray := prog_8_method_107_code
def yX6_undo : MethodName := ⟨RX6, "undo", "()I"⟩
abbrev cX6_tear : ByteArray := prog_8_method_108_code
def yX6_tear : MethodName := ⟨RX6, "tear", "()I"⟩
abbrev cX6_count : ByteArray := prog_8_method_109_code
def yX6_count : MethodName := ⟨RX6, "count", "(I)I"⟩
abbrev cX6_status : ByteArray := prog_8_method_110_code
def yX6_status : MethodName := ⟨RX6, "status", "(I)I"⟩
def RJ6 : String := "java/lang/Integer"
def TJ6 : u_T := fun k => match k with
  | _ => ("", "", "", false)
def tyJ6 : Nat → FieldType := fun k => match k with
  | _ => .int
abbrev wsJ60 : List Cond := u_ws RJ6 TJ6 0
abbrev cJ6_bitCount_0f7a4 : ByteArray := prog_9_method_49_code
def yJ6_bitCount_0f7a4 : MethodName := ⟨RJ6, "bitCount", "(I)I"⟩
def RJ9 : String := "java/lang/Math"
def TJ9 : u_T := fun k => match k with
  | _ => ("", "", "", false)
def tyJ9 : Nat → FieldType := fun k => match k with
  | _ => .int
abbrev wsJ90 : List Cond := u_ws RJ9 TJ9 0
abbrev cJ9_max_7cf53 : ByteArray := prog_10_method_65_code
def yJ9_max_7cf53 : MethodName := ⟨RJ9, "max", "(II)I"⟩
abbrev cJ9_min_7cf53 : ByteArray := prog_10_method_69_code
def yJ9_min_7cf53 : MethodName := ⟨RJ9, "min", "(II)I"⟩
def RJ0 : String := "java/lang/String"
def TJ0 : u_T := fun k => match k with
  | _ => ("", "", "", false)
def tyJ0 : Nat → FieldType := fun k => match k with
  | _ => .int
abbrev wsJ00 : List Cond := u_ws RJ0 TJ0 0
abbrev cJ0_length_8abf5 : ByteArray := prog_11_method_54_code
def yJ0_length_8abf5 : MethodName := ⟨RJ0, "length", "()I"⟩
abbrev cJ0_charAt_5068e : ByteArray := prog_11_method_56_code
def yJ0_charAt_5068e : MethodName := ⟨RJ0, "charAt", "(I)C"⟩
abbrev cJ0_coder_7d493 : ByteArray := prog_11_method_152_code
def yJ0_coder_7d493 : MethodName := ⟨RJ0, "coder", "()B"⟩
abbrev cJ0_isLatin1_aae02 : ByteArray := prog_11_method_154_code
def yJ0_isLatin1_aae02 : MethodName := ⟨RJ0, "isLatin1", "()Z"⟩
abbrev cJ0_checkIndex_df160 : ByteArray := prog_11_method_155_code
def yJ0_checkIndex_df160 : MethodName := ⟨RJ0, "checkIndex", "(II)V"⟩
def RJ1 : String := "java/lang/StringLatin1"
def TJ1 : u_T := fun k => match k with
  | _ => ("", "", "", false)
def tyJ1 : Nat → FieldType := fun k => match k with
  | _ => .int
abbrev wsJ10 : List Cond := u_ws RJ1 TJ1 0
abbrev cJ1_charAt_3b067 : ByteArray := prog_12_method_2_code
def yJ1_charAt_3b067 : MethodName := ⟨RJ1, "charAt", "([BI)C"⟩
def RJ2 : String := "java/lang/StringUTF16"
def TJ2 : u_T := fun k => match k with
  | _ => ("", "", "", false)
def tyJ2 : Nat → FieldType := fun k => match k with
  | _ => .int
abbrev wsJ20 : List Cond := u_ws RJ2 TJ2 0
abbrev cJ2_getChar_3b067 : ByteArray := prog_13_method_5_code
def yJ2_getChar_3b067 : MethodName := ⟨RJ2, "getChar", "([BI)C"⟩
abbrev cJ2_length_9d52b : ByteArray := prog_13_method_6_code
def yJ2_length_9d52b : MethodName := ⟨RJ2, "length", "([B)I"⟩
abbrev cJ2_charAt_3b067 : ByteArray := prog_13_method_83_code
def yJ2_charAt_3b067 : MethodName := ⟨RJ2, "charAt", "([BI)C"⟩
abbrev cJ2_checkIndex_2214a : ByteArray := prog_13_method_91_code
def yJ2_checkIndex_2214a : MethodName := ⟨RJ2, "checkIndex", "(I[B)V"⟩
def RJ10 : String := "java/lang/System"
def TJ10 : u_T := fun k => match k with
  | _ => ("", "", "", false)
def tyJ10 : Nat → FieldType := fun k => match k with
  | _ => .int
abbrev wsJ100 : List Cond := u_ws RJ10 TJ10 0
def RJ3 : String := "jdk/internal/util/Preconditions"
def TJ3 : u_T := fun k => match k with
  | _ => ("", "", "", false)
def tyJ3 : Nat → FieldType := fun k => match k with
  | _ => .int
abbrev wsJ30 : List Cond := u_ws RJ3 TJ3 0
abbrev cJ3_checkIndex_8e157 : ByteArray := prog_15_method_11_code
def yJ3_checkIndex_8e157 : MethodName := ⟨RJ3, "checkIndex", "(IILjava/util/function/BiFunction;)I"⟩
