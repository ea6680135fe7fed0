section
-- ===== PART A: goes FIRST, ahead of the names: the tables' words, and 'selects' of the private methods out of them =====
/-- a private method of a class that the tables say can be made, by its rows of tables_1 -/
def lw_okq (q : MethodName × Nat) : Prop := (q.1.cls ≠ "java/lang/invoke/MethodHandle" ∧ q.1.cls ≠ "java/lang/invoke/VarHandle") ∧ Cond.instantiable q.1.cls q.2 ∈ tables_1 ∧ Cond.privateMethod q.1 ∈ tables_1 ∧ Cond.instanceMethod q.1 ∈ tables_1
theorem lw_p0 : lw_okq (⟨"NameRail", "finding", "(I)I"⟩, 8) := ⟨⟨by decide +kernel, by decide +kernel⟩, List.mem_of_getElem? (i := 16) (by decide +kernel), List.mem_of_getElem? (i := 186) (by decide +kernel), List.mem_of_getElem? (i := 187) (by decide +kernel)⟩
theorem lw_p1 : lw_okq (⟨"NameRail", "isName", "(I)Z"⟩, 8) := ⟨⟨by decide +kernel, by decide +kernel⟩, List.mem_of_getElem? (i := 16) (by decide +kernel), List.mem_of_getElem? (i := 199) (by decide +kernel), List.mem_of_getElem? (i := 200) (by decide +kernel)⟩
theorem lw_p2 : lw_okq (⟨"NameRail", "changed", "([IIIZ)I"⟩, 8) := ⟨⟨by decide +kernel, by decide +kernel⟩, List.mem_of_getElem? (i := 16) (by decide +kernel), List.mem_of_getElem? (i := 225) (by decide +kernel), List.mem_of_getElem? (i := 226) (by decide +kernel)⟩
theorem lw_p3 : lw_okq (⟨"NameRail", "isNameOrNone", "(I)Z"⟩, 8) := ⟨⟨by decide +kernel, by decide +kernel⟩, List.mem_of_getElem? (i := 16) (by decide +kernel), List.mem_of_getElem? (i := 230) (by decide +kernel), List.mem_of_getElem? (i := 231) (by decide +kernel)⟩
theorem lw_p4 : lw_okq (⟨"NameRail", "richestWith", "(II)I"⟩, 8) := ⟨⟨by decide +kernel, by decide +kernel⟩, List.mem_of_getElem? (i := 16) (by decide +kernel), List.mem_of_getElem? (i := 435) (by decide +kernel), List.mem_of_getElem? (i := 436) (by decide +kernel)⟩
theorem lw_p5 : lw_okq (⟨"NameRail", "faultOfFit", "(II)I"⟩, 8) := ⟨⟨by decide +kernel, by decide +kernel⟩, List.mem_of_getElem? (i := 16) (by decide +kernel), List.mem_of_getElem? (i := 447) (by decide +kernel), List.mem_of_getElem? (i := 448) (by decide +kernel)⟩
theorem lw_p6 : lw_okq (⟨"NameRail", "fitting", "(LNameRail$Sheet;I)I"⟩, 8) := ⟨⟨by decide +kernel, by decide +kernel⟩, List.mem_of_getElem? (i := 16) (by decide +kernel), List.mem_of_getElem? (i := 454) (by decide +kernel), List.mem_of_getElem? (i := 455) (by decide +kernel)⟩
theorem lw_p7 : lw_okq (⟨"NameRail$Reader", "step", "()V"⟩, 5) := ⟨⟨by decide +kernel, by decide +kernel⟩, List.mem_of_getElem? (i := 110) (by decide +kernel), List.mem_of_getElem? (i := 504) (by decide +kernel), List.mem_of_getElem? (i := 505) (by decide +kernel)⟩
theorem lw_p8 : lw_okq (⟨"NameRail$Reader", "stepWord", "()V"⟩, 5) := ⟨⟨by decide +kernel, by decide +kernel⟩, List.mem_of_getElem? (i := 110) (by decide +kernel), List.mem_of_getElem? (i := 515) (by decide +kernel), List.mem_of_getElem? (i := 516) (by decide +kernel)⟩
theorem lw_p9 : lw_okq (⟨"NameRail$Reader", "stepNumber", "()V"⟩, 5) := ⟨⟨by decide +kernel, by decide +kernel⟩, List.mem_of_getElem? (i := 110) (by decide +kernel), List.mem_of_getElem? (i := 522) (by decide +kernel), List.mem_of_getElem? (i := 523) (by decide +kernel)⟩
theorem lw_p10 : lw_okq (⟨"NameRail$Reader", "item", "(LNameRail$House;)Z"⟩, 5) := ⟨⟨by decide +kernel, by decide +kernel⟩, List.mem_of_getElem? (i := 110) (by decide +kernel), List.mem_of_getElem? (i := 527) (by decide +kernel), List.mem_of_getElem? (i := 528) (by decide +kernel)⟩
theorem lw_p11 : lw_okq (⟨"NameRail$Reader", "kindTold", "()I"⟩, 5) := ⟨⟨by decide +kernel, by decide +kernel⟩, List.mem_of_getElem? (i := 110) (by decide +kernel), List.mem_of_getElem? (i := 531) (by decide +kernel), List.mem_of_getElem? (i := 532) (by decide +kernel)⟩
theorem lw_p12 : lw_okq (⟨"NameRail$Reader", "isWord", "(Ljava/lang/String;)Z"⟩, 5) := ⟨⟨by decide +kernel, by decide +kernel⟩, List.mem_of_getElem? (i := 110) (by decide +kernel), List.mem_of_getElem? (i := 536) (by decide +kernel), List.mem_of_getElem? (i := 537) (by decide +kernel)⟩
theorem lw_p13 : lw_okq (⟨"NameRail$Reader", "nameItem", "(LNameRail$House;I)Z"⟩, 5) := ⟨⟨by decide +kernel, by decide +kernel⟩, List.mem_of_getElem? (i := 110) (by decide +kernel), List.mem_of_getElem? (i := 594) (by decide +kernel), List.mem_of_getElem? (i := 595) (by decide +kernel)⟩
theorem lw_p14 : lw_okq (⟨"NameRail$Reader", "isNumberTo", "(I)Z"⟩, 5) := ⟨⟨by decide +kernel, by decide +kernel⟩, List.mem_of_getElem? (i := 110) (by decide +kernel), List.mem_of_getElem? (i := 598) (by decide +kernel), List.mem_of_getElem? (i := 599) (by decide +kernel)⟩
theorem lw_p15 : lw_okq (⟨"NameRail$Reader", "personItem", "(LNameRail$House;)Z"⟩, 5) := ⟨⟨by decide +kernel, by decide +kernel⟩, List.mem_of_getElem? (i := 110) (by decide +kernel), List.mem_of_getElem? (i := 606) (by decide +kernel), List.mem_of_getElem? (i := 607) (by decide +kernel)⟩
def lw_privs_1 : List (MethodName × Nat) := [(⟨"NameRail", "finding", "(I)I"⟩, 8), (⟨"NameRail", "isName", "(I)Z"⟩, 8), (⟨"NameRail", "changed", "([IIIZ)I"⟩, 8), (⟨"NameRail", "isNameOrNone", "(I)Z"⟩, 8), (⟨"NameRail", "richestWith", "(II)I"⟩, 8), (⟨"NameRail", "faultOfFit", "(II)I"⟩, 8), (⟨"NameRail", "fitting", "(LNameRail$Sheet;I)I"⟩, 8), (⟨"NameRail$Reader", "step", "()V"⟩, 5), (⟨"NameRail$Reader", "stepWord", "()V"⟩, 5), (⟨"NameRail$Reader", "stepNumber", "()V"⟩, 5), (⟨"NameRail$Reader", "item", "(LNameRail$House;)Z"⟩, 5), (⟨"NameRail$Reader", "kindTold", "()I"⟩, 5), (⟨"NameRail$Reader", "isWord", "(Ljava/lang/String;)Z"⟩, 5), (⟨"NameRail$Reader", "nameItem", "(LNameRail$House;I)Z"⟩, 5), (⟨"NameRail$Reader", "isNumberTo", "(I)Z"⟩, 5), (⟨"NameRail$Reader", "personItem", "(LNameRail$House;)Z"⟩, 5)]
theorem lw_r1 : ∀ q ∈ lw_privs_1, lw_okq q := List.forall_mem_cons.mpr ⟨lw_p0, List.forall_mem_cons.mpr ⟨lw_p1, List.forall_mem_cons.mpr ⟨lw_p2, List.forall_mem_cons.mpr ⟨lw_p3, List.forall_mem_cons.mpr ⟨lw_p4, List.forall_mem_cons.mpr ⟨lw_p5, List.forall_mem_cons.mpr ⟨lw_p6, List.forall_mem_cons.mpr ⟨lw_p7, List.forall_mem_cons.mpr ⟨lw_p8, List.forall_mem_cons.mpr ⟨lw_p9, List.forall_mem_cons.mpr ⟨lw_p10, List.forall_mem_cons.mpr ⟨lw_p11, List.forall_mem_cons.mpr ⟨lw_p12, List.forall_mem_cons.mpr ⟨lw_p13, List.forall_mem_cons.mpr ⟨lw_p14, List.forall_mem_cons.mpr ⟨lw_p15, fun _ h => absurd h List.not_mem_nil⟩⟩⟩⟩⟩⟩⟩⟩⟩⟩⟩⟩⟩⟩⟩⟩
theorem lw_p16 : lw_okq (⟨"NameRail$Reader", "orderItem", "(LNameRail$House;)Z"⟩, 5) := ⟨⟨by decide +kernel, by decide +kernel⟩, List.mem_of_getElem? (i := 110) (by decide +kernel), List.mem_of_getElem? (i := 613) (by decide +kernel), List.mem_of_getElem? (i := 614) (by decide +kernel)⟩
theorem lw_p17 : lw_okq (⟨"NameRailModel", "finding", "(I)I"⟩, 22) := ⟨⟨by decide +kernel, by decide +kernel⟩, List.mem_of_getElem? (i := 689) (by decide +kernel), List.mem_of_getElem? (i := 782) (by decide +kernel), List.mem_of_getElem? (i := 783) (by decide +kernel)⟩
theorem lw_p18 : lw_okq (⟨"NameRailModel", "comes", "(IIII)I"⟩, 22) := ⟨⟨by decide +kernel, by decide +kernel⟩, List.mem_of_getElem? (i := 689) (by decide +kernel), List.mem_of_getElem? (i := 787) (by decide +kernel), List.mem_of_getElem? (i := 788) (by decide +kernel)⟩
theorem lw_p19 : lw_okq (⟨"NameRailModel", "isName", "(I)Z"⟩, 22) := ⟨⟨by decide +kernel, by decide +kernel⟩, List.mem_of_getElem? (i := 689) (by decide +kernel), List.mem_of_getElem? (i := 798) (by decide +kernel), List.mem_of_getElem? (i := 799) (by decide +kernel)⟩
theorem lw_p20 : lw_okq (⟨"NameRailModel", "dueOf", "(I)I"⟩, 22) := ⟨⟨by decide +kernel, by decide +kernel⟩, List.mem_of_getElem? (i := 689) (by decide +kernel), List.mem_of_getElem? (i := 802) (by decide +kernel), List.mem_of_getElem? (i := 803) (by decide +kernel)⟩
theorem lw_p21 : lw_okq (⟨"NameRailModel", "nameIs", "(II)I"⟩, 22) := ⟨⟨by decide +kernel, by decide +kernel⟩, List.mem_of_getElem? (i := 689) (by decide +kernel), List.mem_of_getElem? (i := 806) (by decide +kernel), List.mem_of_getElem? (i := 807) (by decide +kernel)⟩
theorem lw_p22 : lw_okq (⟨"NameRailModel", "fadesBy", "(I)I"⟩, 22) := ⟨⟨by decide +kernel, by decide +kernel⟩, List.mem_of_getElem? (i := 689) (by decide +kernel), List.mem_of_getElem? (i := 810) (by decide +kernel), List.mem_of_getElem? (i := 811) (by decide +kernel)⟩
theorem lw_p23 : lw_okq (⟨"NameRailModel", "hangs", "(I)Z"⟩, 22) := ⟨⟨by decide +kernel, by decide +kernel⟩, List.mem_of_getElem? (i := 689) (by decide +kernel), List.mem_of_getElem? (i := 814) (by decide +kernel), List.mem_of_getElem? (i := 815) (by decide +kernel)⟩
theorem lw_p24 : lw_okq (⟨"NameRailModel", "foesOf", "(I)I"⟩, 22) := ⟨⟨by decide +kernel, by decide +kernel⟩, List.mem_of_getElem? (i := 689) (by decide +kernel), List.mem_of_getElem? (i := 818) (by decide +kernel), List.mem_of_getElem? (i := 819) (by decide +kernel)⟩
theorem lw_p25 : lw_okq (⟨"NameRailModel", "doQuarrel", "(II)Z"⟩, 22) := ⟨⟨by decide +kernel, by decide +kernel⟩, List.mem_of_getElem? (i := 689) (by decide +kernel), List.mem_of_getElem? (i := 822) (by decide +kernel), List.mem_of_getElem? (i := 823) (by decide +kernel)⟩
theorem lw_p26 : lw_okq (⟨"NameRailModel", "mayBe", "(III)Z"⟩, 22) := ⟨⟨by decide +kernel, by decide +kernel⟩, List.mem_of_getElem? (i := 689) (by decide +kernel), List.mem_of_getElem? (i := 830) (by decide +kernel), List.mem_of_getElem? (i := 831) (by decide +kernel)⟩
theorem lw_p27 : lw_okq (⟨"NameRailModel", "become", "(II)I"⟩, 22) := ⟨⟨by decide +kernel, by decide +kernel⟩, List.mem_of_getElem? (i := 689) (by decide +kernel), List.mem_of_getElem? (i := 835) (by decide +kernel), List.mem_of_getElem? (i := 836) (by decide +kernel)⟩
theorem lw_p28 : lw_okq (⟨"NameRailModel", "placeOf", "(I)I"⟩, 22) := ⟨⟨by decide +kernel, by decide +kernel⟩, List.mem_of_getElem? (i := 689) (by decide +kernel), List.mem_of_getElem? (i := 853) (by decide +kernel), List.mem_of_getElem? (i := 854) (by decide +kernel)⟩
theorem lw_p29 : lw_okq (⟨"NameRailModel", "days", "(I)V"⟩, 22) := ⟨⟨by decide +kernel, by decide +kernel⟩, List.mem_of_getElem? (i := 689) (by decide +kernel), List.mem_of_getElem? (i := 880) (by decide +kernel), List.mem_of_getElem? (i := 881) (by decide +kernel)⟩
theorem lw_p30 : lw_okq (⟨"NameRailModel", "day", "()V"⟩, 22) := ⟨⟨by decide +kernel, by decide +kernel⟩, List.mem_of_getElem? (i := 689) (by decide +kernel), List.mem_of_getElem? (i := 884) (by decide +kernel), List.mem_of_getElem? (i := 885) (by decide +kernel)⟩
theorem lw_p31 : lw_okq (⟨"NameRailModel", "drawBy", "(I)I"⟩, 22) := ⟨⟨by decide +kernel, by decide +kernel⟩, List.mem_of_getElem? (i := 689) (by decide +kernel), List.mem_of_getElem? (i := 888) (by decide +kernel), List.mem_of_getElem? (i := 889) (by decide +kernel)⟩
def lw_privs_2 : List (MethodName × Nat) := [(⟨"NameRail$Reader", "orderItem", "(LNameRail$House;)Z"⟩, 5), (⟨"NameRailModel", "finding", "(I)I"⟩, 22), (⟨"NameRailModel", "comes", "(IIII)I"⟩, 22), (⟨"NameRailModel", "isName", "(I)Z"⟩, 22), (⟨"NameRailModel", "dueOf", "(I)I"⟩, 22), (⟨"NameRailModel", "nameIs", "(II)I"⟩, 22), (⟨"NameRailModel", "fadesBy", "(I)I"⟩, 22), (⟨"NameRailModel", "hangs", "(I)Z"⟩, 22), (⟨"NameRailModel", "foesOf", "(I)I"⟩, 22), (⟨"NameRailModel", "doQuarrel", "(II)Z"⟩, 22), (⟨"NameRailModel", "mayBe", "(III)Z"⟩, 22), (⟨"NameRailModel", "become", "(II)I"⟩, 22), (⟨"NameRailModel", "placeOf", "(I)I"⟩, 22), (⟨"NameRailModel", "days", "(I)V"⟩, 22), (⟨"NameRailModel", "day", "()V"⟩, 22), (⟨"NameRailModel", "drawBy", "(I)I"⟩, 22)]
theorem lw_r2 : ∀ q ∈ lw_privs_2, lw_okq q := List.forall_mem_cons.mpr ⟨lw_p16, List.forall_mem_cons.mpr ⟨lw_p17, List.forall_mem_cons.mpr ⟨lw_p18, List.forall_mem_cons.mpr ⟨lw_p19, List.forall_mem_cons.mpr ⟨lw_p20, List.forall_mem_cons.mpr ⟨lw_p21, List.forall_mem_cons.mpr ⟨lw_p22, List.forall_mem_cons.mpr ⟨lw_p23, List.forall_mem_cons.mpr ⟨lw_p24, List.forall_mem_cons.mpr ⟨lw_p25, List.forall_mem_cons.mpr ⟨lw_p26, List.forall_mem_cons.mpr ⟨lw_p27, List.forall_mem_cons.mpr ⟨lw_p28, List.forall_mem_cons.mpr ⟨lw_p29, List.forall_mem_cons.mpr ⟨lw_p30, List.forall_mem_cons.mpr ⟨lw_p31, fun _ h => absurd h List.not_mem_nil⟩⟩⟩⟩⟩⟩⟩⟩⟩⟩⟩⟩⟩⟩⟩⟩
theorem lw_p32 : lw_okq (⟨"NameRailModel", "leastLeft", "(I)I"⟩, 22) := ⟨⟨by decide +kernel, by decide +kernel⟩, List.mem_of_getElem? (i := 689) (by decide +kernel), List.mem_of_getElem? (i := 892) (by decide +kernel), List.mem_of_getElem? (i := 893) (by decide +kernel)⟩
theorem lw_p33 : lw_okq (⟨"NameRailModel", "pays", "(I)V"⟩, 22) := ⟨⟨by decide +kernel, by decide +kernel⟩, List.mem_of_getElem? (i := 689) (by decide +kernel), List.mem_of_getElem? (i := 896) (by decide +kernel), List.mem_of_getElem? (i := 897) (by decide +kernel)⟩
theorem lw_p34 : lw_okq (⟨"NameRailModel", "quarrelsIn", "(I)I"⟩, 22) := ⟨⟨by decide +kernel, by decide +kernel⟩, List.mem_of_getElem? (i := 689) (by decide +kernel), List.mem_of_getElem? (i := 901) (by decide +kernel), List.mem_of_getElem? (i := 902) (by decide +kernel)⟩
theorem lw_p35 : lw_okq (⟨"NameRailModel", "purses", "()I"⟩, 22) := ⟨⟨by decide +kernel, by decide +kernel⟩, List.mem_of_getElem? (i := 689) (by decide +kernel), List.mem_of_getElem? (i := 905) (by decide +kernel), List.mem_of_getElem? (i := 906) (by decide +kernel)⟩
theorem lw_p36 : lw_okq (⟨"NameRailModel", "hungNow", "()I"⟩, 22) := ⟨⟨by decide +kernel, by decide +kernel⟩, List.mem_of_getElem? (i := 689) (by decide +kernel), List.mem_of_getElem? (i := 913) (by decide +kernel), List.mem_of_getElem? (i := 914) (by decide +kernel)⟩
theorem lw_p37 : lw_okq (⟨"NameRailModel", "debts", "()I"⟩, 22) := ⟨⟨by decide +kernel, by decide +kernel⟩, List.mem_of_getElem? (i := 689) (by decide +kernel), List.mem_of_getElem? (i := 917) (by decide +kernel), List.mem_of_getElem? (i := 918) (by decide +kernel)⟩
theorem lw_p38 : lw_okq (⟨"NameRailModel", "behind", "(II)I"⟩, 22) := ⟨⟨by decide +kernel, by decide +kernel⟩, List.mem_of_getElem? (i := 689) (by decide +kernel), List.mem_of_getElem? (i := 933) (by decide +kernel), List.mem_of_getElem? (i := 934) (by decide +kernel)⟩
theorem lw_p39 : lw_okq (⟨"NameRailModel", "putBack", "(I)I"⟩, 22) := ⟨⟨by decide +kernel, by decide +kernel⟩, List.mem_of_getElem? (i := 689) (by decide +kernel), List.mem_of_getElem? (i := 940) (by decide +kernel), List.mem_of_getElem? (i := 941) (by decide +kernel)⟩
theorem lw_p40 : lw_okq (⟨"NameRailModel", "hungFor", "(I)I"⟩, 22) := ⟨⟨by decide +kernel, by decide +kernel⟩, List.mem_of_getElem? (i := 689) (by decide +kernel), List.mem_of_getElem? (i := 952) (by decide +kernel), List.mem_of_getElem? (i := 953) (by decide +kernel)⟩
theorem lw_p41 : lw_okq (⟨"NameRailModel", "orNone", "(I)I"⟩, 22) := ⟨⟨by decide +kernel, by decide +kernel⟩, List.mem_of_getElem? (i := 689) (by decide +kernel), List.mem_of_getElem? (i := 961) (by decide +kernel), List.mem_of_getElem? (i := 962) (by decide +kernel)⟩
theorem lw_p42 : lw_okq (⟨"NameRailModel", "doesDraw", "(III)Z"⟩, 22) := ⟨⟨by decide +kernel, by decide +kernel⟩, List.mem_of_getElem? (i := 689) (by decide +kernel), List.mem_of_getElem? (i := 977) (by decide +kernel), List.mem_of_getElem? (i := 978) (by decide +kernel)⟩
theorem lw_p43 : lw_okq (⟨"NameRailModel", "leastOrder", "(Z)I"⟩, 22) := ⟨⟨by decide +kernel, by decide +kernel⟩, List.mem_of_getElem? (i := 689) (by decide +kernel), List.mem_of_getElem? (i := 989) (by decide +kernel), List.mem_of_getElem? (i := 990) (by decide +kernel)⟩
theorem lw_p44 : lw_okq (⟨"NameRailModel", "duesIn", "(I)I"⟩, 22) := ⟨⟨by decide +kernel, by decide +kernel⟩, List.mem_of_getElem? (i := 689) (by decide +kernel), List.mem_of_getElem? (i := 994) (by decide +kernel), List.mem_of_getElem? (i := 995) (by decide +kernel)⟩
theorem lw_p45 : lw_okq (⟨"NameRailModel", "greatest", "(IIIII)I"⟩, 22) := ⟨⟨by decide +kernel, by decide +kernel⟩, List.mem_of_getElem? (i := 689) (by decide +kernel), List.mem_of_getElem? (i := 1006) (by decide +kernel), List.mem_of_getElem? (i := 1007) (by decide +kernel)⟩
theorem lw_p46 : lw_okq (⟨"NameRailModel", "isPeace", "(I)Z"⟩, 22) := ⟨⟨by decide +kernel, by decide +kernel⟩, List.mem_of_getElem? (i := 689) (by decide +kernel), List.mem_of_getElem? (i := 1021) (by decide +kernel), List.mem_of_getElem? (i := 1022) (by decide +kernel)⟩
theorem lw_p47 : lw_okq (⟨"NameRailModel", "pursesBy", "(II)I"⟩, 22) := ⟨⟨by decide +kernel, by decide +kernel⟩, List.mem_of_getElem? (i := 689) (by decide +kernel), List.mem_of_getElem? (i := 1037) (by decide +kernel), List.mem_of_getElem? (i := 1038) (by decide +kernel)⟩
def lw_privs_3 : List (MethodName × Nat) := [(⟨"NameRailModel", "leastLeft", "(I)I"⟩, 22), (⟨"NameRailModel", "pays", "(I)V"⟩, 22), (⟨"NameRailModel", "quarrelsIn", "(I)I"⟩, 22), (⟨"NameRailModel", "purses", "()I"⟩, 22), (⟨"NameRailModel", "hungNow", "()I"⟩, 22), (⟨"NameRailModel", "debts", "()I"⟩, 22), (⟨"NameRailModel", "behind", "(II)I"⟩, 22), (⟨"NameRailModel", "putBack", "(I)I"⟩, 22), (⟨"NameRailModel", "hungFor", "(I)I"⟩, 22), (⟨"NameRailModel", "orNone", "(I)I"⟩, 22), (⟨"NameRailModel", "doesDraw", "(III)Z"⟩, 22), (⟨"NameRailModel", "leastOrder", "(Z)I"⟩, 22), (⟨"NameRailModel", "duesIn", "(I)I"⟩, 22), (⟨"NameRailModel", "greatest", "(IIIII)I"⟩, 22), (⟨"NameRailModel", "isPeace", "(I)Z"⟩, 22), (⟨"NameRailModel", "pursesBy", "(II)I"⟩, 22)]
theorem lw_r3 : ∀ q ∈ lw_privs_3, lw_okq q := List.forall_mem_cons.mpr ⟨lw_p32, List.forall_mem_cons.mpr ⟨lw_p33, List.forall_mem_cons.mpr ⟨lw_p34, List.forall_mem_cons.mpr ⟨lw_p35, List.forall_mem_cons.mpr ⟨lw_p36, List.forall_mem_cons.mpr ⟨lw_p37, List.forall_mem_cons.mpr ⟨lw_p38, List.forall_mem_cons.mpr ⟨lw_p39, List.forall_mem_cons.mpr ⟨lw_p40, List.forall_mem_cons.mpr ⟨lw_p41, List.forall_mem_cons.mpr ⟨lw_p42, List.forall_mem_cons.mpr ⟨lw_p43, List.forall_mem_cons.mpr ⟨lw_p44, List.forall_mem_cons.mpr ⟨lw_p45, List.forall_mem_cons.mpr ⟨lw_p46, List.forall_mem_cons.mpr ⟨lw_p47, fun _ h => absurd h List.not_mem_nil⟩⟩⟩⟩⟩⟩⟩⟩⟩⟩⟩⟩⟩⟩⟩⟩
theorem lw_p48 : lw_okq (⟨"NameRailModel", "putBackPurses", "()I"⟩, 22) := ⟨⟨by decide +kernel, by decide +kernel⟩, List.mem_of_getElem? (i := 689) (by decide +kernel), List.mem_of_getElem? (i := 1041) (by decide +kernel), List.mem_of_getElem? (i := 1042) (by decide +kernel)⟩
theorem lw_p49 : lw_okq (⟨"NameRailModel", "lacks", "(I)I"⟩, 22) := ⟨⟨by decide +kernel, by decide +kernel⟩, List.mem_of_getElem? (i := 689) (by decide +kernel), List.mem_of_getElem? (i := 1053) (by decide +kernel), List.mem_of_getElem? (i := 1054) (by decide +kernel)⟩
theorem lw_p50 : lw_okq (⟨"NameRailModel", "fitting", "(II)I"⟩, 22) := ⟨⟨by decide +kernel, by decide +kernel⟩, List.mem_of_getElem? (i := 689) (by decide +kernel), List.mem_of_getElem? (i := 1061) (by decide +kernel), List.mem_of_getElem? (i := 1062) (by decide +kernel)⟩
theorem lw_p51 : lw_okq (⟨"NameRailModel", "wentSo", "(II)Z"⟩, 22) := ⟨⟨by decide +kernel, by decide +kernel⟩, List.mem_of_getElem? (i := 689) (by decide +kernel), List.mem_of_getElem? (i := 1065) (by decide +kernel), List.mem_of_getElem? (i := 1066) (by decide +kernel)⟩
theorem lw_p52 : lw_okq (⟨"NameRailModel", "drawnNumber", "()I"⟩, 22) := ⟨⟨by decide +kernel, by decide +kernel⟩, List.mem_of_getElem? (i := 689) (by decide +kernel), List.mem_of_getElem? (i := 1077) (by decide +kernel), List.mem_of_getElem? (i := 1078) (by decide +kernel)⟩
theorem lw_p53 : lw_okq (⟨"NameRailModel", "next", "()V"⟩, 22) := ⟨⟨by decide +kernel, by decide +kernel⟩, List.mem_of_getElem? (i := 689) (by decide +kernel), List.mem_of_getElem? (i := 1102) (by decide +kernel), List.mem_of_getElem? (i := 1103) (by decide +kernel)⟩
theorem lw_p54 : lw_okq (⟨"NameRailModel", "byteAt", "(I)I"⟩, 22) := ⟨⟨by decide +kernel, by decide +kernel⟩, List.mem_of_getElem? (i := 689) (by decide +kernel), List.mem_of_getElem? (i := 1106) (by decide +kernel), List.mem_of_getElem? (i := 1107) (by decide +kernel)⟩
theorem lw_p55 : lw_okq (⟨"NameRailModel", "readItem", "()V"⟩, 22) := ⟨⟨by decide +kernel, by decide +kernel⟩, List.mem_of_getElem? (i := 689) (by decide +kernel), List.mem_of_getElem? (i := 1110) (by decide +kernel), List.mem_of_getElem? (i := 1111) (by decide +kernel)⟩
theorem lw_p56 : lw_okq (⟨"NameRailModel", "kindTold", "()I"⟩, 22) := ⟨⟨by decide +kernel, by decide +kernel⟩, List.mem_of_getElem? (i := 689) (by decide +kernel), List.mem_of_getElem? (i := 1114) (by decide +kernel), List.mem_of_getElem? (i := 1115) (by decide +kernel)⟩
theorem lw_p57 : lw_okq (⟨"NameRailModel", "isWord", "(Ljava/lang/String;)Z"⟩, 22) := ⟨⟨by decide +kernel, by decide +kernel⟩, List.mem_of_getElem? (i := 689) (by decide +kernel), List.mem_of_getElem? (i := 1118) (by decide +kernel), List.mem_of_getElem? (i := 1119) (by decide +kernel)⟩
theorem lw_p58 : lw_okq (⟨"NameRailModel", "must", "(Z)V"⟩, 22) := ⟨⟨by decide +kernel, by decide +kernel⟩, List.mem_of_getElem? (i := 689) (by decide +kernel), List.mem_of_getElem? (i := 1124) (by decide +kernel), List.mem_of_getElem? (i := 1125) (by decide +kernel)⟩
theorem lw_p59 : lw_okq (⟨"NameRailModel", "number", "(II)I"⟩, 22) := ⟨⟨by decide +kernel, by decide +kernel⟩, List.mem_of_getElem? (i := 689) (by decide +kernel), List.mem_of_getElem? (i := 1128) (by decide +kernel), List.mem_of_getElem? (i := 1129) (by decide +kernel)⟩
theorem lw_p60 : lw_okq (⟨"NameRailModel", "afterWord", "(Ljava/lang/String;II)I"⟩, 22) := ⟨⟨by decide +kernel, by decide +kernel⟩, List.mem_of_getElem? (i := 689) (by decide +kernel), List.mem_of_getElem? (i := 1133) (by decide +kernel), List.mem_of_getElem? (i := 1134) (by decide +kernel)⟩
theorem lw_p61 : lw_okq (⟨"NameRailModel", "item", "(IIII)V"⟩, 22) := ⟨⟨by decide +kernel, by decide +kernel⟩, List.mem_of_getElem? (i := 689) (by decide +kernel), List.mem_of_getElem? (i := 1138) (by decide +kernel), List.mem_of_getElem? (i := 1139) (by decide +kernel)⟩
theorem lw_p62 : lw_okq (⟨"NameRailModel", "isToldSo", "(I)I"⟩, 22) := ⟨⟨by decide +kernel, by decide +kernel⟩, List.mem_of_getElem? (i := 689) (by decide +kernel), List.mem_of_getElem? (i := 1146) (by decide +kernel), List.mem_of_getElem? (i := 1147) (by decide +kernel)⟩
def lw_privs_4 : List (MethodName × Nat) := [(⟨"NameRailModel", "putBackPurses", "()I"⟩, 22), (⟨"NameRailModel", "lacks", "(I)I"⟩, 22), (⟨"NameRailModel", "fitting", "(II)I"⟩, 22), (⟨"NameRailModel", "wentSo", "(II)Z"⟩, 22), (⟨"NameRailModel", "drawnNumber", "()I"⟩, 22), (⟨"NameRailModel", "next", "()V"⟩, 22), (⟨"NameRailModel", "byteAt", "(I)I"⟩, 22), (⟨"NameRailModel", "readItem", "()V"⟩, 22), (⟨"NameRailModel", "kindTold", "()I"⟩, 22), (⟨"NameRailModel", "isWord", "(Ljava/lang/String;)Z"⟩, 22), (⟨"NameRailModel", "must", "(Z)V"⟩, 22), (⟨"NameRailModel", "number", "(II)I"⟩, 22), (⟨"NameRailModel", "afterWord", "(Ljava/lang/String;II)I"⟩, 22), (⟨"NameRailModel", "item", "(IIII)V"⟩, 22), (⟨"NameRailModel", "isToldSo", "(I)I"⟩, 22)]
theorem lw_r4 : ∀ q ∈ lw_privs_4, lw_okq q := List.forall_mem_cons.mpr ⟨lw_p48, List.forall_mem_cons.mpr ⟨lw_p49, List.forall_mem_cons.mpr ⟨lw_p50, List.forall_mem_cons.mpr ⟨lw_p51, List.forall_mem_cons.mpr ⟨lw_p52, List.forall_mem_cons.mpr ⟨lw_p53, List.forall_mem_cons.mpr ⟨lw_p54, List.forall_mem_cons.mpr ⟨lw_p55, List.forall_mem_cons.mpr ⟨lw_p56, List.forall_mem_cons.mpr ⟨lw_p57, List.forall_mem_cons.mpr ⟨lw_p58, List.forall_mem_cons.mpr ⟨lw_p59, List.forall_mem_cons.mpr ⟨lw_p60, List.forall_mem_cons.mpr ⟨lw_p61, List.forall_mem_cons.mpr ⟨lw_p62, fun _ h => absurd h List.not_mem_nil⟩⟩⟩⟩⟩⟩⟩⟩⟩⟩⟩⟩⟩⟩⟩
def lw_privs : List (MethodName × Nat) := lw_privs_1 ++ (lw_privs_2 ++ (lw_privs_3 ++ (lw_privs_4)))
def lw_tbl : List Cond := k2_sels lw_privs ++ tables_1
theorem lw_privs_ok : ∀ q ∈ lw_privs, lw_okq q := by
  show ∀ q ∈ lw_privs_1 ++ (lw_privs_2 ++ (lw_privs_3 ++ (lw_privs_4))), lw_okq q
  exact List.forall_mem_append.mpr ⟨lw_r1, List.forall_mem_append.mpr ⟨lw_r2, List.forall_mem_append.mpr ⟨lw_r3, lw_r4⟩⟩⟩

def RX0 : String := "NameRail$House"
def TX0 : u_T := fun k => match k with
  | 0 => ("NameRail$House", "names", "I", false)
  | 1 => ("NameRail$House", "kind", "[I", true)
  | 2 => ("NameRail$House", "duty", "[I", true)
  | 3 => ("NameRail$House", "wear", "[I", true)
  | 4 => ("NameRail$House", "debt", "[I", true)
  | 5 => ("NameRail$House", "foe", "[I", true)
  | 6 => ("NameRail$House", "purse", "[I", true)
  | 7 => ("NameRail$House", "wish", "[I", true)
  | 8 => ("NameRail$House", "spots", "[I", true)
  | 9 => ("NameRail$House", "order", "I", false)
  | 10 => ("NameRail$House", "day", "I", false)
  | 11 => ("NameRail$House", "quarrels", "I", false)
  | 12 => ("NameRail$House", "z", "I", false)
  | 13 => ("NameRail$House", "line", "[I", true)
  | _ => ("NameRail$House", "drawn", "[I", true)
def tyX0 : Nat → FieldType := fun k => match k with
  | 0 => .int
  | 1 => .array .int
  | 2 => .array .int
  | 3 => .array .int
  | 4 => .array .int
  | 5 => .array .int
  | 6 => .array .int
  | 7 => .array .int
  | 8 => .array .int
  | 9 => .int
  | 10 => .int
  | 11 => .int
  | 12 => .int
  | 13 => .array .int
  | _ => .array .int
abbrev wsX00 : List Cond := u_ws RX0 TX0 15
theorem nmX0 : ∀ a, a < 15 → ∀ b, b < 15 → a ≠ b → (TX0 a).2.1 ≠ (TX0 b).2.1 := by decide +kernel
theorem tyX0_ok : ∀ k, k < 15 → parseFieldDescriptor (TX0 k).2.2.1 = some (tyX0 k) := by decide +kernel
abbrev cX0_init : ByteArray := prog_2_method_1_code
def yX0_init : MethodName := ⟨RX0, "<init>", "()V"⟩
abbrev cX0_become : ByteArray := prog_2_method_2_code
def yX0_become : MethodName := ⟨RX0, "become", "(LNameRail$House;)V"⟩
abbrev cX0_hangUp : ByteArray := prog_2_method_3_code
def yX0_hangUp : MethodName := ⟨RX0, "hangUp", "(IIII)I"⟩
abbrev cX0_due : ByteArray := prog_2_method_4_code
def yX0_due : MethodName := ⟨RX0, "due", "(I)I"⟩
abbrev cX0_hangs : ByteArray := prog_2_method_5_code
def yX0_hangs : MethodName := ⟨RX0, "hangs", "(I)Z"⟩
abbrev cX0_hanging : ByteArray := prog_2_method_6_code
def yX0_hanging : MethodName := ⟨RX0, "hanging", "()I"⟩
abbrev cX0_foesOf : ByteArray := prog_2_method_7_code
def yX0_foesOf : MethodName := ⟨RX0, "foesOf", "(I)I"⟩
abbrev cX0_pairsIn : ByteArray := prog_2_method_8_code
def yX0_pairsIn : MethodName := ⟨RX0, "pairsIn", "(I)I"⟩
abbrev cX0_isPeaceful : ByteArray := prog_2_method_9_code
def yX0_isPeaceful : MethodName := ⟨RX0, "isPeaceful", "(I)Z"⟩
abbrev cX0_purses : ByteArray := prog_2_method_10_code
def yX0_purses : MethodName := ⟨RX0, "purses", "()I"⟩
abbrev cX0_debts : ByteArray := prog_2_method_11_code
def yX0_debts : MethodName := ⟨RX0, "debts", "()I"⟩
abbrev cX0_spotsHeld : ByteArray := prog_2_method_12_code
def yX0_spotsHeld : MethodName := ⟨RX0, "spotsHeld", "()I"⟩
abbrev cX0_lineUp : ByteArray := prog_2_method_13_code
def yX0_lineUp : MethodName := ⟨RX0, "lineUp", "(I)V"⟩
abbrev cX0_placeOf : ByteArray := prog_2_method_14_code
def yX0_placeOf : MethodName := ⟨RX0, "placeOf", "(I)I"⟩
abbrev cX0_draw : ByteArray := prog_2_method_15_code
def yX0_draw : MethodName := ⟨RX0, "draw", "(I)V"⟩
abbrev cX0_draws : ByteArray := prog_2_method_16_code
def yX0_draws : MethodName := ⟨RX0, "draws", "(I)Z"⟩
abbrev cX0_duesDrawn : ByteArray := prog_2_method_17_code
def yX0_duesDrawn : MethodName := ⟨RX0, "duesDrawn", "()I"⟩
abbrev cX0_pairsDrawn : ByteArray := prog_2_method_18_code
def yX0_pairsDrawn : MethodName := ⟨RX0, "pairsDrawn", "()I"⟩
abbrev cX0_passDay : ByteArray := prog_2_method_19_code
def yX0_passDay : MethodName := ⟨RX0, "passDay", "()V"⟩
abbrev cX0_pay : ByteArray := prog_2_method_20_code
def yX0_pay : MethodName := ⟨RX0, "pay", "(II)V"⟩
abbrev cX0_fade : ByteArray := prog_2_method_21_code
def yX0_fade : MethodName := ⟨RX0, "fade", "(I)V"⟩
abbrev cX0_pass : ByteArray := prog_2_method_22_code
def yX0_pass : MethodName := ⟨RX0, "pass", "(I)V"⟩
abbrev cX0_daysHung : ByteArray := prog_2_method_23_code
def yX0_daysHung : MethodName := ⟨RX0, "daysHung", "(I)I"⟩
abbrev cX0_pays : ByteArray := prog_2_method_24_code
def yX0_pays : MethodName := ⟨RX0, "pays", "(LNameRail$Sheet;I)Z"⟩
abbrev cX0_moth : ByteArray := prog_2_method_25_code
def yX0_moth : MethodName := ⟨RX0, "moth", "()V"⟩
def RX1 : String := "NameRail$Kinds"
def TX1 : u_T := fun k => match k with
  | _ => ("", "", "", false)
def tyX1 : Nat → FieldType := fun k => match k with
  | _ => .int
abbrev wsX10 : List Cond := u_ws RX1 TX1 0
theorem nmX1 : ∀ a, a < 0 → ∀ b, b < 0 → a ≠ b → (TX1 a).2.1 ≠ (TX1 b).2.1 := by decide +kernel
theorem tyX1_ok : ∀ k, k < 0 → parseFieldDescriptor (TX1 k).2.2.1 = some (tyX1 k) := by decide +kernel
abbrev cX1_above : ByteArray := prog_3_method_2_code
def yX1_above : MethodName := ⟨RX1, "above", "(I)I"⟩
abbrev cX1_isUnder : ByteArray := prog_3_method_3_code
def yX1_isUnder : MethodName := ⟨RX1, "isUnder", "(II)Z"⟩
abbrev cX1_due : ByteArray := prog_3_method_4_code
def yX1_due : MethodName := ⟨RX1, "due", "(IIII)I"⟩
abbrev cX1_fades : ByteArray := prog_3_method_5_code
def yX1_fades : MethodName := ⟨RX1, "fades", "(I)I"⟩
def RX2 : String := "NameRail$Reader"
def TX2 : u_T := fun k => match k with
  | 0 => ("NameRail$Reader", "tape", "LNameRail$Tape;", false)
  | 1 => ("NameRail$Reader", "sort", "I", false)
  | 2 => ("NameRail$Reader", "first", "I", false)
  | 3 => ("NameRail$Reader", "behind", "I", false)
  | _ => ("NameRail$Reader", "value", "I", false)
def tyX2 : Nat → FieldType := fun k => match k with
  | 0 => .object "NameRail$Tape"
  | 1 => .int
  | 2 => .int
  | 3 => .int
  | _ => .int
abbrev wsX20 : List Cond := u_ws RX2 TX2 5
theorem nmX2 : ∀ a, a < 5 → ∀ b, b < 5 → a ≠ b → (TX2 a).2.1 ≠ (TX2 b).2.1 := by decide +kernel
theorem tyX2_ok : ∀ k, k < 5 → parseFieldDescriptor (TX2 k).2.2.1 = some (tyX2 k) := by decide +kernel
abbrev cX2_init : ByteArray := prog_4_method_1_code
def yX2_init : MethodName := ⟨RX2, "<init>", "()V"⟩
abbrev cX2_read : ByteArray := prog_4_method_2_code
def yX2_read : MethodName := ⟨RX2, "read", "(LNameRail$Tape;LNameRail$House;)I"⟩
abbrev cX2_step : ByteArray := prog_4_method_3_code
def yX2_step : MethodName := ⟨RX2, "step", "()V"⟩
abbrev cX2_stepWord : ByteArray := prog_4_method_4_code
def yX2_stepWord : MethodName := ⟨RX2, "stepWord", "()V"⟩
abbrev cX2_stepNumber : ByteArray := prog_4_method_5_code
def yX2_stepNumber : MethodName := ⟨RX2, "stepNumber", "()V"⟩
abbrev cX2_isLetter : ByteArray := prog_4_method_6_code
def yX2_isLetter : MethodName := ⟨RX2, "isLetter", "(I)Z"⟩
abbrev cX2_isDigit : ByteArray := prog_4_method_7_code
def yX2_isDigit : MethodName := ⟨RX2, "isDigit", "(I)Z"⟩
abbrev cX2_isWord : ByteArray := prog_4_method_8_code
def yX2_isWord : MethodName := ⟨RX2, "isWord", "(Ljava/lang/String;)Z"⟩
abbrev cX2_isNumberTo : ByteArray := prog_4_method_9_code
def yX2_isNumberTo : MethodName := ⟨RX2, "isNumberTo", "(I)Z"⟩
abbrev cX2_kindTold : ByteArray := prog_4_method_10_code
def yX2_kindTold : MethodName := ⟨RX2, "kindTold", "()I"⟩
abbrev cX2_item : ByteArray := prog_4_method_11_code
def yX2_item : MethodName := ⟨RX2, "item", "(LNameRail$House;)Z"⟩
abbrev cX2_nameItem : ByteArray := prog_4_method_12_code
def yX2_nameItem : MethodName := ⟨RX2, "nameItem", "(LNameRail$House;I)Z"⟩
abbrev cX2_personItem : ByteArray := prog_4_method_13_code
def yX2_personItem : MethodName := ⟨RX2, "personItem", "(LNameRail$House;)Z"⟩
abbrev cX2_orderItem : ByteArray := prog_4_method_14_code
def yX2_orderItem : MethodName := ⟨RX2, "orderItem", "(LNameRail$House;)Z"⟩
def RX3 : String := "NameRail$Sheet"
def TX3 : u_T := fun k => match k with
  | 0 => ("NameRail$Sheet", "numbers", "[I", true)
  | 1 => ("NameRail$Sheet", "bits", "I", false)
  | _ => ("NameRail$Sheet", "length", "I", false)
def tyX3 : Nat → FieldType := fun k => match k with
  | 0 => .array .int
  | 1 => .int
  | _ => .int
abbrev wsX30 : List Cond := u_ws RX3 TX3 3
theorem nmX3 : ∀ a, a < 3 → ∀ b, b < 3 → a ≠ b → (TX3 a).2.1 ≠ (TX3 b).2.1 := by decide +kernel
theorem tyX3_ok : ∀ k, k < 3 → parseFieldDescriptor (TX3 k).2.2.1 = some (tyX3 k) := by decide +kernel
abbrev cX3_init : ByteArray := prog_5_method_1_code
def yX3_init : MethodName := ⟨RX3, "<init>", "()V"⟩
abbrev cX3_layOut : ByteArray := prog_5_method_2_code
def yX3_layOut : MethodName := ⟨RX3, "layOut", "(II)V"⟩
abbrev cX3_put : ByteArray := prog_5_method_3_code
def yX3_put : MethodName := ⟨RX3, "put", "(II)V"⟩
abbrev cX3_has : ByteArray := prog_5_method_4_code
def yX3_has : MethodName := ⟨RX3, "has", "(II)Z"⟩
def RX4 : String := "NameRail$Tape"
def TX4 : u_T := fun k => match k with
  | 0 => ("NameRail$Tape", "bytes", "[I", true)
  | _ => ("NameRail$Tape", "length", "I", false)
def tyX4 : Nat → FieldType := fun k => match k with
  | 0 => .array .int
  | _ => .int
abbrev wsX40 : List Cond := u_ws RX4 TX4 2
theorem nmX4 : ∀ a, a < 2 → ∀ b, b < 2 → a ≠ b → (TX4 a).2.1 ≠ (TX4 b).2.1 := by decide +kernel
theorem tyX4_ok : ∀ k, k < 2 → parseFieldDescriptor (TX4 k).2.2.1 = some (tyX4 k) := by decide +kernel
abbrev cX4_init : ByteArray := prog_6_method_1_code
def yX4_init : MethodName := ⟨RX4, "<init>", "()V"⟩
abbrev cX4_append : ByteArray := prog_6_method_2_code
def yX4_append : MethodName := ⟨RX4, "append", "(I)V"⟩
abbrev cX4_byteAt : ByteArray := prog_6_method_3_code
def yX4_byteAt : MethodName := ⟨RX4, "byteAt", "(I)I"⟩
def RX5 : String := "NameRail"
def TX5 : u_T := fun k => match k with
  | 0 => ("NameRail", "house", "LNameRail$House;", true)
  | 1 => ("NameRail", "kept", "LNameRail$House;", true)
  | 2 => ("NameRail", "trial", "LNameRail$House;", true)
  | 3 => ("NameRail", "tape", "LNameRail$Tape;", true)
  | 4 => ("NameRail", "reader", "LNameRail$Reader;", true)
  | 5 => ("NameRail", "sheets", "[LNameRail$Sheet;", true)
  | 6 => ("NameRail", "found", "[I", true)
  | _ => ("NameRail", "keeps", "Z", false)
def tyX5 : Nat → FieldType := fun k => match k with
  | 0 => .object "NameRail$House"
  | 1 => .object "NameRail$House"
  | 2 => .object "NameRail$House"
  | 3 => .object "NameRail$Tape"
  | 4 => .object "NameRail$Reader"
  | 5 => .array (.object "NameRail$Sheet")
  | 6 => .array .int
  | _ => .boolean
abbrev wsX50 : List Cond := u_ws RX5 TX5 8
theorem nmX5 : ∀ a, a < 8 → ∀ b, b < 8 → a ≠ b → (TX5 a).2.1 ≠ (TX5 b).2.1 := by decide +kernel
theorem tyX5_ok : ∀ k, k < 8 → parseFieldDescriptor (TX5 k).2.2.1 = some (tyX5 k) := by decide +kernel
abbrev cX5_init : ByteArray := prog_1_method_1_code
def yX5_init : MethodName := ⟨RX5, "<init>", "()V"⟩
abbrev cX5_name : ByteArray := prog_1_method_2_code
def yX5_name : MethodName := ⟨RX5, "name", "(II)I"⟩
abbrev cX5_of : ByteArray := prog_1_method_3_code
def yX5_of : MethodName := ⟨RX5, "of", "(II)I"⟩
abbrev cX5_change : ByteArray := prog_1_method_4_code
def yX5_change : MethodName := ⟨RX5, "change", "(III)I"⟩
abbrev cX5_person : ByteArray := prog_1_method_5_code
def yX5_person : MethodName := ⟨RX5, "person", "(III)I"⟩
abbrev cX5_personOf : ByteArray := prog_1_method_6_code
def yX5_personOf : MethodName := ⟨RX5, "personOf", "(II)I"⟩
abbrev cX5_order : ByteArray := prog_1_method_7_code
def yX5_order : MethodName := ⟨RX5, "order", "(I)I"⟩
abbrev cX5_at : ByteArray := prog_1_method_8_code
def yX5_at : MethodName := ⟨RX5, "at", "(II)I"⟩
abbrev cX5_go : ByteArray := prog_1_method_9_code
def yX5_go : MethodName := ⟨RX5, "go", "(I)I"⟩
abbrev cX5_now : ByteArray := prog_1_method_10_code
def yX5_now : MethodName := ⟨RX5, "now", "(I)I"⟩
abbrev cX5_mend : ByteArray := prog_1_method_11_code
def yX5_mend : MethodName := ⟨RX5, "mend", "(III)I"⟩
abbrev cX5_wears : ByteArray := prog_1_method_12_code
def yX5_wears : MethodName := ⟨RX5, "wears", "(I)I"⟩
abbrev cX5_ahead : ByteArray := prog_1_method_13_code
def yX5_ahead : MethodName := ⟨RX5, "ahead", "(II)I"⟩
abbrev cX5_owes : ByteArray := prog_1_method_14_code
def yX5_owes : MethodName := ⟨RX5, "owes", "(II)I"⟩
abbrev cX5_lasts : ByteArray := prog_1_method_15_code
def yX5_lasts : MethodName := ⟨RX5, "lasts", "(I)I"⟩
abbrev cX5_broke : ByteArray := prog_1_method_16_code
def yX5_broke : MethodName := ⟨RX5, "broke", "(I)I"⟩
abbrev cX5_often : ByteArray := prog_1_method_17_code
def yX5_often : MethodName := ⟨RX5, "often", "(III)I"⟩
abbrev cX5_kindFor : ByteArray := prog_1_method_18_code
def yX5_kindFor : MethodName := ⟨RX5, "kindFor", "(I)I"⟩
abbrev cX5_orderFor : ByteArray := prog_1_method_19_code
def yX5_orderFor : MethodName := ⟨RX5, "orderFor", "(II)I"⟩
abbrev cX5_orders : ByteArray := prog_1_method_20_code
def yX5_orders : MethodName := ⟨RX5, "orders", "(II)I"⟩
abbrev cX5_cheapest : ByteArray := prog_1_method_21_code
def yX5_cheapest : MethodName := ⟨RX5, "cheapest", "()I"⟩
abbrev cX5_calmest : ByteArray := prog_1_method_22_code
def yX5_calmest : MethodName := ⟨RX5, "calmest", "()I"⟩
abbrev cX5_best : ByteArray := prog_1_method_23_code
def yX5_best : MethodName := ⟨RX5, "best", "(II)I"⟩
abbrev cX5_wishFor : ByteArray := prog_1_method_24_code
def yX5_wishFor : MethodName := ⟨RX5, "wishFor", "(II)I"⟩
abbrev cX5_peace : ByteArray := prog_1_method_25_code
def yX5_peace : MethodName := ⟨RX5, "peace", "()I"⟩
abbrev cX5_peaceful : ByteArray := prog_1_method_26_code
def yX5_peaceful : MethodName := ⟨RX5, "peaceful", "(I)I"⟩
abbrev cX5_groups : ByteArray := prog_1_method_27_code
def yX5_groups : MethodName := ⟨RX5, "groups", "()I"⟩
abbrev cX5_mendFor : ByteArray := prog_1_method_28_code
def yX5_mendFor : MethodName := ⟨RX5, "mendFor", "(I)I"⟩
abbrev cX5_without : ByteArray := prog_1_method_29_code
def yX5_without : MethodName := ⟨RX5, "without", "(I)I"⟩
abbrev cX5_fits : ByteArray := prog_1_method_30_code
def yX5_fits : MethodName := ⟨RX5, "fits", "(II)I"⟩
abbrev cX5_wish : ByteArray := prog_1_method_31_code
def yX5_wish : MethodName := ⟨RX5, "wish", "(II)I"⟩
abbrev cX5_moths : ByteArray := prog_1_method_32_code
def yX5_moths : MethodName := ⟨RX5, "moths", "(I)I"⟩
abbrev cX5_odds : ByteArray := prog_1_method_33_code
def yX5_odds : MethodName := ⟨RX5, "odds", "(II)J"⟩
abbrev cX5_seed : ByteArray := prog_1_method_34_code
def yX5_seed : MethodName := ⟨RX5, "seed", "(I)I"⟩
abbrev cX5_feed : ByteArray := prog_1_method_35_code
def yX5_feed : MethodName := ⟨RX5, "feed", "(II)I"⟩
abbrev cX5_wipe : ByteArray := prog_1_method_36_code
def yX5_wipe : MethodName := ⟨RX5, "wipe", "()I"⟩
abbrev cX5_text : ByteArray := prog_1_method_37_code
def yX5_text : MethodName := ⟨RX5, "text", "()I"⟩
abbrev cX5_hold : ByteArray := prog_1_method_38_code
def yX5_hold : MethodName := ⟨RX5, "hold", "(II)I"⟩
abbrev cX5_as : ByteArray := prog_1_method_39_code
def yX5_as : MethodName := ⟨RX5, "as", "(II)I"⟩
abbrev cX5_sheet : ByteArray := prog_1_method_40_code
def yX5_sheet : MethodName := ⟨RX5, "sheet", "(III)I"⟩
abbrev cX5_write : ByteArray := prog_1_method_41_code
def yX5_write : MethodName := ⟨RX5, "write", "(III)I"⟩
abbrev cX5_copy : ByteArray := prog_1_method_42_code
def yX5_copy : MethodName := ⟨RX5, "copy", "(IIIII)I"⟩
abbrev cX5_load : ByteArray := prog_1_method_43_code
def yX5_load : MethodName := ⟨RX5, "load", "(I)I"⟩
abbrev cX5_judge : ByteArray := prog_1_method_44_code
def yX5_judge : MethodName := ⟨RX5, "judge", "(I)I"⟩
abbrev cX5_image : ByteArray := prog_1_method_45_code
def yX5_image : MethodName := ⟨RX5, "image", "()I"⟩
abbrev cX5_undo : ByteArray := prog_1_method_46_code
def yX5_undo : MethodName := ⟨RX5, "undo", "()I"⟩
abbrev cX5_tear : ByteArray := prog_1_method_47_code
def yX5_tear : MethodName := ⟨RX5, "tear", "()I"⟩
abbrev cX5_count : ByteArray := prog_1_method_48_code
def yX5_count : MethodName := ⟨RX5, "count", "(I)I"⟩
abbrev cX5_status : ByteArray := prog_1_method_49_code
def yX5_status : MethodName := ⟨RX5, "status", "(I)I"⟩
abbrev cX5_finding : ByteArray := prog_1_method_50_code
def yX5_finding : MethodName := ⟨RX5, "finding", "(I)I"⟩
abbrev cX5_within : ByteArray := prog_1_method_51_code
def yX5_within : MethodName := ⟨RX5, "within", "(III)Z"⟩
abbrev cX5_isIn : ByteArray := prog_1_method_52_code
def yX5_isIn : MethodName := ⟨RX5, "isIn", "(II)Z"⟩
abbrev cX5_lowest : ByteArray := prog_1_method_53_code
def yX5_lowest : MethodName := ⟨RX5, "lowest", "(I)I"⟩
abbrev cX5_isName : ByteArray := prog_1_method_54_code
def yX5_isName : MethodName := ⟨RX5, "isName", "(I)Z"⟩
abbrev cX5_isNameOrNone : ByteArray := prog_1_method_55_code
def yX5_isNameOrNone : MethodName := ⟨RX5, "isNameOrNone", "(I)Z"⟩
abbrev cX5_isPerson : ByteArray := prog_1_method_56_code
def yX5_isPerson : MethodName := ⟨RX5, "isPerson", "(I)Z"⟩
abbrev cX5_isOrder : ByteArray := prog_1_method_57_code
def yX5_isOrder : MethodName := ⟨RX5, "isOrder", "(I)Z"⟩
abbrev cX5_isSheet : ByteArray := prog_1_method_58_code
def yX5_isSheet : MethodName := ⟨RX5, "isSheet", "(I)Z"⟩
abbrev cX5_changed : ByteArray := prog_1_method_59_code
def yX5_changed : MethodName := ⟨RX5, "changed", "([IIIZ)I"⟩
abbrev cX5_richestWith : ByteArray := prog_1_method_60_code
def yX5_richestWith : MethodName := ⟨RX5, "richestWith", "(II)I"⟩
abbrev cX5_faultOfFit : ByteArray := prog_1_method_61_code
def yX5_faultOfFit : MethodName := ⟨RX5, "faultOfFit", "(II)I"⟩
abbrev cX5_fitting : ByteArray := prog_1_method_62_code
def yX5_fitting : MethodName := ⟨RX5, "fitting", "(LNameRail$Sheet;I)I"⟩
def RX6 : String := "NameRailModel"
def TX6 : u_T := fun k => match k with
  | 0 => ("NameRailModel", "now", "[I", true)
  | 1 => ("NameRailModel", "kept", "[I", true)
  | 2 => ("NameRailModel", "aside", "[I", true)
  | 3 => ("NameRailModel", "isKept", "Z", false)
  | 4 => ("NameRailModel", "found", "[I", true)
  | 5 => ("NameRailModel", "drawn", "[I", true)
  | 6 => ("NameRailModel", "groupsOf", "[I", true)
  | 7 => ("NameRailModel", "tape", "[I", true)
  | 8 => ("NameRailModel", "taped", "I", false)
  | 9 => ("NameRailModel", "begins", "I", false)
  | 10 => ("NameRailModel", "ends", "I", false)
  | 11 => ("NameRailModel", "sort", "I", false)
  | 12 => ("NameRailModel", "value", "I", false)
  | 13 => ("NameRailModel", "isWrong", "Z", false)
  | 14 => ("NameRailModel", "kindNames", "[Ljava/lang/String;", true)
  | 15 => ("NameRailModel", "items", "[I", true)
  | 16 => ("NameRailModel", "itemMany", "I", false)
  | 17 => ("NameRailModel", "nameThen", "I", false)
  | 18 => ("NameRailModel", "widths", "[I", true)
  | 19 => ("NameRailModel", "sizes", "[I", true)
  | 20 => ("NameRailModel", "numbers", "[I", true)
  | _ => ("NameRailModel", "moved", "[I", true)
def tyX6 : Nat → FieldType := fun k => match k with
  | 0 => .array .int
  | 1 => .array .int
  | 2 => .array .int
  | 3 => .boolean
  | 4 => .array .int
  | 5 => .array .int
  | 6 => .array .int
  | 7 => .array .int
  | 8 => .int
  | 9 => .int
  | 10 => .int
  | 11 => .int
  | 12 => .int
  | 13 => .boolean
  | 14 => .array (.object "java/lang/String")
  | 15 => .array .int
  | 16 => .int
  | 17 => .int
  | 18 => .array .int
  | 19 => .array .int
  | 20 => .array .int
  | _ => .array .int
abbrev wsX60 : List Cond := u_ws RX6 TX6 22
theorem nmX6 : ∀ a, a < 22 → ∀ b, b < 22 → a ≠ b → (TX6 a).2.1 ≠ (TX6 b).2.1 := by decide +kernel
theorem tyX6_ok : ∀ k, k < 22 → parseFieldDescriptor (TX6 k).2.2.1 = some (tyX6 k) := by decide +kernel
abbrev cX6_init : ByteArray := prog_8_method_1_code
def yX6_init : MethodName := ⟨RX6, "<init>", "()V"⟩
abbrev cX6_finding : ByteArray := prog_8_method_2_code
def yX6_finding : MethodName := ⟨RX6, "finding", "(I)I"⟩
abbrev cX6_within : ByteArray := prog_8_method_3_code
def yX6_within : MethodName := ⟨RX6, "within", "(III)Z"⟩
abbrev cX6_become : ByteArray := prog_8_method_4_code
def yX6_become : MethodName := ⟨RX6, "become", "(II)I"⟩
abbrev cX6_copyRow : ByteArray := prog_8_method_5_code
def yX6_copyRow : MethodName := ⟨RX6, "copyRow", "([I[I)V"⟩
abbrev cX6_putBack : ByteArray := prog_8_method_6_code
def yX6_putBack : MethodName := ⟨RX6, "putBack", "(I)I"⟩
abbrev cX6_orNone : ByteArray := prog_8_method_7_code
def yX6_orNone : MethodName := ⟨RX6, "orNone", "(I)I"⟩
abbrev cX6_has : ByteArray := prog_8_method_8_code
def yX6_has : MethodName := ⟨RX6, "has", "(II)Z"⟩
abbrev cX6_bits : ByteArray := prog_8_method_9_code
def yX6_bits : MethodName := ⟨RX6, "bits", "(I)I"⟩
abbrev cX6_isName : ByteArray := prog_8_method_10_code
def yX6_isName : MethodName := ⟨RX6, "isName", "(I)Z"⟩
abbrev cX6_isPerson : ByteArray := prog_8_method_11_code
def yX6_isPerson : MethodName := ⟨RX6, "isPerson", "(I)Z"⟩
abbrev cX6_isKind : ByteArray := prog_8_method_12_code
def yX6_isKind : MethodName := ⟨RX6, "isKind", "(I)Z"⟩
abbrev cX6_place : ByteArray := prog_8_method_13_code
def yX6_place : MethodName := ⟨RX6, "place", "(II)I"⟩
abbrev cX6_nameIs : ByteArray := prog_8_method_14_code
def yX6_nameIs : MethodName := ⟨RX6, "nameIs", "(II)I"⟩
abbrev cX6_comes : ByteArray := prog_8_method_15_code
def yX6_comes : MethodName := ⟨RX6, "comes", "(IIII)I"⟩
abbrev cX6_name : ByteArray := prog_8_method_16_code
def yX6_name : MethodName := ⟨RX6, "name", "(II)I"⟩
abbrev cX6_dueOf : ByteArray := prog_8_method_17_code
def yX6_dueOf : MethodName := ⟨RX6, "dueOf", "(I)I"⟩
abbrev cX6_fadesBy : ByteArray := prog_8_method_18_code
def yX6_fadesBy : MethodName := ⟨RX6, "fadesBy", "(I)I"⟩
abbrev cX6_hangs : ByteArray := prog_8_method_19_code
def yX6_hangs : MethodName := ⟨RX6, "hangs", "(I)Z"⟩
abbrev cX6_doQuarrel : ByteArray := prog_8_method_20_code
def yX6_doQuarrel : MethodName := ⟨RX6, "doQuarrel", "(II)Z"⟩
abbrev cX6_foesOf : ByteArray := prog_8_method_21_code
def yX6_foesOf : MethodName := ⟨RX6, "foesOf", "(I)I"⟩
abbrev cX6_of : ByteArray := prog_8_method_22_code
def yX6_of : MethodName := ⟨RX6, "of", "(II)I"⟩
abbrev cX6_mayBe : ByteArray := prog_8_method_23_code
def yX6_mayBe : MethodName := ⟨RX6, "mayBe", "(III)Z"⟩
abbrev cX6_change : ByteArray := prog_8_method_24_code
def yX6_change : MethodName := ⟨RX6, "change", "(III)I"⟩
abbrev cX6_isPurse : ByteArray := prog_8_method_25_code
def yX6_isPurse : MethodName := ⟨RX6, "isPurse", "(I)Z"⟩
abbrev cX6_person : ByteArray := prog_8_method_26_code
def yX6_person : MethodName := ⟨RX6, "person", "(III)I"⟩
abbrev cX6_isOrder : ByteArray := prog_8_method_27_code
def yX6_isOrder : MethodName := ⟨RX6, "isOrder", "(I)Z"⟩
abbrev cX6_standsAt : ByteArray := prog_8_method_28_code
def yX6_standsAt : MethodName := ⟨RX6, "standsAt", "(II)I"⟩
abbrev cX6_placeOf : ByteArray := prog_8_method_29_code
def yX6_placeOf : MethodName := ⟨RX6, "placeOf", "(I)I"⟩
abbrev cX6_personOf : ByteArray := prog_8_method_30_code
def yX6_personOf : MethodName := ⟨RX6, "personOf", "(II)I"⟩
abbrev cX6_order : ByteArray := prog_8_method_31_code
def yX6_order : MethodName := ⟨RX6, "order", "(I)I"⟩
abbrev cX6_at : ByteArray := prog_8_method_32_code
def yX6_at : MethodName := ⟨RX6, "at", "(II)I"⟩
abbrev cX6_leastLeft : ByteArray := prog_8_method_33_code
def yX6_leastLeft : MethodName := ⟨RX6, "leastLeft", "(I)I"⟩
abbrev cX6_drawBy : ByteArray := prog_8_method_34_code
def yX6_drawBy : MethodName := ⟨RX6, "drawBy", "(I)I"⟩
abbrev cX6_quarrelsIn : ByteArray := prog_8_method_35_code
def yX6_quarrelsIn : MethodName := ⟨RX6, "quarrelsIn", "(I)I"⟩
abbrev cX6_pays : ByteArray := prog_8_method_36_code
def yX6_pays : MethodName := ⟨RX6, "pays", "(I)V"⟩
abbrev cX6_day : ByteArray := prog_8_method_37_code
def yX6_day : MethodName := ⟨RX6, "day", "()V"⟩
abbrev cX6_days : ByteArray := prog_8_method_38_code
def yX6_days : MethodName := ⟨RX6, "days", "(I)V"⟩
abbrev cX6_purses : ByteArray := prog_8_method_39_code
def yX6_purses : MethodName := ⟨RX6, "purses", "()I"⟩
abbrev cX6_go : ByteArray := prog_8_method_40_code
def yX6_go : MethodName := ⟨RX6, "go", "(I)I"⟩
abbrev cX6_hungNow : ByteArray := prog_8_method_41_code
def yX6_hungNow : MethodName := ⟨RX6, "hungNow", "()I"⟩
abbrev cX6_debts : ByteArray := prog_8_method_42_code
def yX6_debts : MethodName := ⟨RX6, "debts", "()I"⟩
abbrev cX6_now : ByteArray := prog_8_method_43_code
def yX6_now : MethodName := ⟨RX6, "now", "(I)I"⟩
abbrev cX6_mend : ByteArray := prog_8_method_44_code
def yX6_mend : MethodName := ⟨RX6, "mend", "(III)I"⟩
abbrev cX6_wears : ByteArray := prog_8_method_45_code
def yX6_wears : MethodName := ⟨RX6, "wears", "(I)I"⟩
abbrev cX6_behind : ByteArray := prog_8_method_46_code
def yX6_behind : MethodName := ⟨RX6, "behind", "(II)I"⟩
abbrev cX6_ahead : ByteArray := prog_8_method_47_code
def yX6_ahead : MethodName := ⟨RX6, "ahead", "(II)I"⟩
abbrev cX6_owes : ByteArray := prog_8_method_48_code
def yX6_owes : MethodName := ⟨RX6, "owes", "(II)I"⟩
abbrev cX6_hungFor : ByteArray := prog_8_method_49_code
def yX6_hungFor : MethodName := ⟨RX6, "hungFor", "(I)I"⟩
abbrev cX6_lasts : ByteArray := prog_8_method_50_code
def yX6_lasts : MethodName := ⟨RX6, "lasts", "(I)I"⟩
abbrev cX6_broke : ByteArray := prog_8_method_51_code
def yX6_broke : MethodName := ⟨RX6, "broke", "(I)I"⟩
abbrev cX6_often : ByteArray := prog_8_method_52_code
def yX6_often : MethodName := ⟨RX6, "often", "(III)I"⟩
abbrev cX6_kindFor : ByteArray := prog_8_method_53_code
def yX6_kindFor : MethodName := ⟨RX6, "kindFor", "(I)I"⟩
abbrev cX6_doesDraw : ByteArray := prog_8_method_54_code
def yX6_doesDraw : MethodName := ⟨RX6, "doesDraw", "(III)Z"⟩
abbrev cX6_orderFor : ByteArray := prog_8_method_55_code
def yX6_orderFor : MethodName := ⟨RX6, "orderFor", "(II)I"⟩
abbrev cX6_orders : ByteArray := prog_8_method_56_code
def yX6_orders : MethodName := ⟨RX6, "orders", "(II)I"⟩
abbrev cX6_duesIn : ByteArray := prog_8_method_57_code
def yX6_duesIn : MethodName := ⟨RX6, "duesIn", "(I)I"⟩
abbrev cX6_leastOrder : ByteArray := prog_8_method_58_code
def yX6_leastOrder : MethodName := ⟨RX6, "leastOrder", "(Z)I"⟩
abbrev cX6_cheapest : ByteArray := prog_8_method_59_code
def yX6_cheapest : MethodName := ⟨RX6, "cheapest", "()I"⟩
abbrev cX6_calmest : ByteArray := prog_8_method_60_code
def yX6_calmest : MethodName := ⟨RX6, "calmest", "()I"⟩
abbrev cX6_greatest : ByteArray := prog_8_method_61_code
def yX6_greatest : MethodName := ⟨RX6, "greatest", "(IIIII)I"⟩
abbrev cX6_best : ByteArray := prog_8_method_62_code
def yX6_best : MethodName := ⟨RX6, "best", "(II)I"⟩
abbrev cX6_wishFor : ByteArray := prog_8_method_63_code
def yX6_wishFor : MethodName := ⟨RX6, "wishFor", "(II)I"⟩
abbrev cX6_isPeace : ByteArray := prog_8_method_64_code
def yX6_isPeace : MethodName := ⟨RX6, "isPeace", "(I)Z"⟩
abbrev cX6_peace : ByteArray := prog_8_method_65_code
def yX6_peace : MethodName := ⟨RX6, "peace", "()I"⟩
abbrev cX6_peaceful : ByteArray := prog_8_method_66_code
def yX6_peaceful : MethodName := ⟨RX6, "peaceful", "(I)I"⟩
abbrev cX6_groups : ByteArray := prog_8_method_67_code
def yX6_groups : MethodName := ⟨RX6, "groups", "()I"⟩
abbrev cX6_pursesBy : ByteArray := prog_8_method_68_code
def yX6_pursesBy : MethodName := ⟨RX6, "pursesBy", "(II)I"⟩
abbrev cX6_putBackPurses : ByteArray := prog_8_method_69_code
def yX6_putBackPurses : MethodName := ⟨RX6, "putBackPurses", "()I"⟩
abbrev cX6_mendFor : ByteArray := prog_8_method_70_code
def yX6_mendFor : MethodName := ⟨RX6, "mendFor", "(I)I"⟩
abbrev cX6_without : ByteArray := prog_8_method_71_code
def yX6_without : MethodName := ⟨RX6, "without", "(I)I"⟩
abbrev cX6_lacks : ByteArray := prog_8_method_72_code
def yX6_lacks : MethodName := ⟨RX6, "lacks", "(I)I"⟩
abbrev cX6_wentSo : ByteArray := prog_8_method_73_code
def yX6_wentSo : MethodName := ⟨RX6, "wentSo", "(II)Z"⟩
abbrev cX6_fitting : ByteArray := prog_8_method_74_code
def yX6_fitting : MethodName := ⟨RX6, "fitting", "(II)I"⟩
abbrev cX6_fits : ByteArray := prog_8_method_75_code
def yX6_fits : MethodName := ⟨RX6, "fits", "(II)I"⟩
abbrev cX6_wish : ByteArray := prog_8_method_76_code
def yX6_wish : MethodName := ⟨RX6, "wish", "(II)I"⟩
abbrev cX6_drawnNumber : ByteArray := prog_8_method_77_code
def yX6_drawnNumber : MethodName := ⟨RX6, "drawnNumber", "()I"⟩
abbrev cX6_moths : ByteArray := prog_8_method_78_code
def yX6_moths : MethodName := ⟨RX6, "moths", "(I)I"⟩
abbrev cX6_odds : ByteArray := prog_8_method_79_code
def yX6_odds : MethodName := ⟨RX6, "odds", "(II)J"⟩
abbrev cX6_seed : ByteArray := prog_8_method_80_code
def yX6_seed : MethodName := ⟨RX6, "seed", "(I)I"⟩
abbrev cX6_feed : ByteArray := prog_8_method_81_code
def yX6_feed : MethodName := ⟨RX6, "feed", "(II)I"⟩
abbrev cX6_wipe : ByteArray := prog_8_method_82_code
def yX6_wipe : MethodName := ⟨RX6, "wipe", "()I"⟩
abbrev cX6_byteAt : ByteArray := prog_8_method_83_code
def yX6_byteAt : MethodName := ⟨RX6, "byteAt", "(I)I"⟩
abbrev cX6_next : ByteArray := prog_8_method_84_code
def yX6_next : MethodName := ⟨RX6, "next", "()V"⟩
abbrev cX6_isWord : ByteArray := prog_8_method_85_code
def yX6_isWord : MethodName := ⟨RX6, "isWord", "(Ljava/lang/String;)Z"⟩
abbrev cX6_must : ByteArray := prog_8_method_86_code
def yX6_must : MethodName := ⟨RX6, "must", "(Z)V"⟩
abbrev cX6_number : ByteArray := prog_8_method_87_code
def yX6_number : MethodName := ⟨RX6, "number", "(II)I"⟩
abbrev cX6_item : ByteArray := prog_8_method_88_code
def yX6_item : MethodName := ⟨RX6, "item", "(IIII)V"⟩
abbrev cX6_kindTold : ByteArray := prog_8_method_89_code
def yX6_kindTold : MethodName := ⟨RX6, "kindTold", "()I"⟩
abbrev cX6_afterWord : ByteArray := prog_8_method_90_code
def yX6_afterWord : MethodName := ⟨RX6, "afterWord", "(Ljava/lang/String;II)I"⟩
abbrev cX6_readItem : ByteArray := prog_8_method_91_code
def yX6_readItem : MethodName := ⟨RX6, "readItem", "()V"⟩
abbrev cX6_isToldSo : ByteArray := prog_8_method_92_code
def yX6_isToldSo : MethodName := ⟨RX6, "isToldSo", "(I)I"⟩
abbrev cX6_text : ByteArray := prog_8_method_93_code
def yX6_text : MethodName := ⟨RX6, "text", "()I"⟩
abbrev cX6_isSpot : ByteArray := prog_8_method_94_code
def yX6_isSpot : MethodName := ⟨RX6, "isSpot", "(I)Z"⟩
abbrev cX6_hold : ByteArray := prog_8_method_95_code
def yX6_hold : MethodName := ⟨RX6, "hold", "(II)I"⟩
abbrev cX6_as : ByteArray := prog_8_method_96_code
def yX6_as : MethodName := ⟨RX6, "as", "(II)I"⟩
abbrev cX6_isSheet : ByteArray := prog_8_method_97_code
def yX6_isSheet : MethodName := ⟨RX6, "isSheet", "(I)Z"⟩
abbrev cX6_cutTo : ByteArray := prog_8_method_98_code
def yX6_cutTo : MethodName := ⟨RX6, "cutTo", "(II)I"⟩
abbrev cX6_sheet : ByteArray := prog_8_method_99_code
def yX6_sheet : MethodName := ⟨RX6, "sheet", "(III)I"⟩
abbrev cX6_write : ByteArray := prog_8_method_100_code
def yX6_write : MethodName := ⟨RX6, "write", "(III)I"⟩
abbrev cX6_copy : ByteArray := prog_8_method_101_code
def yX6_copy : MethodName := ⟨RX6, "copy", "(IIIII)I"⟩
abbrev cX6_above : ByteArray := prog_8_method_102_code
def yX6_above : MethodName := ⟨RX6, "above", "(I)I"⟩
abbrev cX6_isUnder : ByteArray := prog_8_method_103_code
def yX6_isUnder : MethodName := ⟨RX6, "isUnder", "(II)Z"⟩
abbrev cX6_load : ByteArray := prog_8_method_104_code
def yX6_load : MethodName := ⟨RX6, "load", "(I)I"⟩
abbrev cX6_judge : ByteArray := prog_8_method_105_code
def yX6_judge : MethodName := ⟨RX6, "judge", "(I)I"⟩
abbrev cX6_image : ByteArray := prog_8_method_106_code
def yX6_image : MethodName := ⟨RX6, "image", "()I"⟩
abbrev cX6_undo : ByteArray := prog_8_method_107_code
def yX6_undo : MethodName := ⟨RX6, "undo", "()I"⟩
abbrev cX6_tear : ByteArray := prog_8_method_108_code
def yX6_tear : MethodName := ⟨RX6, "tear", "()I"⟩
abbrev cX6_count : ByteArray := prog_8_method_109_code
def yX6_count : MethodName := ⟨RX6, "count", "(I)I"⟩
abbrev cX6_status : ByteArray := prog_8_method_110_code
def yX6_status : MethodName := ⟨RX6, "status", "(I)I"⟩
def RJ6 : String := "java/lang/Integer"
def TJ6 : u_T := fun k => match k with
  | _ => ("", "", "", false)
def tyJ6 : Nat → FieldType := fun k => match k with
  | _ => .int
abbrev wsJ60 : List Cond := u_ws RJ6 TJ6 0
abbrev cJ6_bitCount_0f7a4 : ByteArray := prog_9_method_49_code
def yJ6_bitCount_0f7a4 : MethodName := ⟨RJ6, "bitCount", "(I)I"⟩
def RJ9 : String := "java/lang/Math"
def TJ9 : u_T := fun k => match k with
  | _ => ("", "", "", false)
def tyJ9 : Nat → FieldType := fun k => match k with
  | _ => .int
abbrev wsJ90 : List Cond := u_ws RJ9 TJ9 0
abbrev cJ9_max_7cf53 : ByteArray := prog_10_method_65_code
def yJ9_max_7cf53 : MethodName := ⟨RJ9, "max", "(II)I"⟩
abbrev cJ9_min_7cf53 : ByteArray := prog_10_method_69_code
def yJ9_min_7cf53 : MethodName := ⟨RJ9, "min", "(II)I"⟩
def RJ0 : String := "java/lang/String"
def TJ0 : u_T := fun k => match k with
  | _ => ("", "", "", false)
def tyJ0 : Nat → FieldType := fun k => match k with
  | _ => .int
abbrev wsJ00 : List Cond := u_ws RJ0 TJ0 0
abbrev cJ0_length_8abf5 : ByteArray := prog_11_method_54_code
def yJ0_length_8abf5 : MethodName := ⟨RJ0, "length", "()I"⟩
abbrev cJ0_charAt_5068e : ByteArray := prog_11_method_56_code
def yJ0_charAt_5068e : MethodName := ⟨RJ0, "charAt", "(I)C"⟩
abbrev cJ0_coder_7d493 : ByteArray := prog_11_method_152_code
def yJ0_coder_7d493 : MethodName := ⟨RJ0, "coder", "()B"⟩
abbrev cJ0_isLatin1_aae02 : ByteArray := prog_11_method_154_code
def yJ0_isLatin1_aae02 : MethodName := ⟨RJ0, "isLatin1", "()Z"⟩
abbrev cJ0_checkIndex_df160 : ByteArray := prog_11_method_155_code
def yJ0_checkIndex_df160 : MethodName := ⟨RJ0, "checkIndex", "(II)V"⟩
def RJ1 : String := "java/lang/StringLatin1"
def TJ1 : u_T := fun k => match k with
  | _ => ("", "", "", false)
def tyJ1 : Nat → FieldType := fun k => match k with
  | _ => .int
abbrev wsJ10 : List Cond := u_ws RJ1 TJ1 0
abbrev cJ1_charAt_3b067 : ByteArray := prog_12_method_2_code
def yJ1_charAt_3b067 : MethodName := ⟨RJ1, "charAt", "([BI)C"⟩
def RJ2 : String := "java/lang/StringUTF16"
def TJ2 : u_T := fun k => match k with
  | _ => ("", "", "", false)
def tyJ2 : Nat → FieldType := fun k => match k with
  | _ => .int
abbrev wsJ20 : List Cond := u_ws RJ2 TJ2 0
abbrev cJ2_getChar_3b067 : ByteArray := prog_13_method_5_code
def yJ2_getChar_3b067 : MethodName := ⟨RJ2, "getChar", "([BI)C"⟩
abbrev cJ2_length_9d52b : ByteArray := prog_13_method_6_code
def yJ2_length_9d52b : MethodName := ⟨RJ2, "length", "([B)I"⟩
abbrev cJ2_charAt_3b067 : ByteArray := prog_13_method_83_code
def yJ2_charAt_3b067 : MethodName := ⟨RJ2, "charAt", "([BI)C"⟩
abbrev cJ2_checkIndex_2214a : ByteArray := prog_13_method_91_code
def yJ2_checkIndex_2214a : MethodName := ⟨RJ2, "checkIndex", "(I[B)V"⟩
def RJ10 : String := "java/lang/System"
def TJ10 : u_T := fun k => match k with
  | _ => ("", "", "", false)
def tyJ10 : Nat → FieldType := fun k => match k with
  | _ => .int
abbrev wsJ100 : List Cond := u_ws RJ10 TJ10 0
def RJ3 : String := "jdk/internal/util/Preconditions"
def TJ3 : u_T := fun k => match k with
  | _ => ("", "", "", false)
def tyJ3 : Nat → FieldType := fun k => match k with
  | _ => .int
abbrev wsJ30 : List Cond := u_ws RJ3 TJ3 0
abbrev cJ3_checkIndex_8e157 : ByteArray := prog_15_method_11_code
def yJ3_checkIndex_8e157 : MethodName := ⟨RJ3, "checkIndex", "(IILjava/util/function/BiFunction;)I"⟩
end
section
/-! THE PURE MACHINE. A world of numbered cells of a fixed shape: what a cell is (an int array, an object with its fields, a row of references) never changes behind the constructors; what it holds is M : cell -> place -> Int32. A contract says: with memory M the method answers v, and leaves M'. -/
abbrev zM : Type := Nat → Nat → Int32
/-- the shape of a cell: an int array of n; an object of a class with its fields (none: a number; some r: the cell r for ever; some 900: null, or the tape); a row of references -/
abbrev zSh : Type := Nat ⊕ ((Nat × List (Option Nat)) ⊕ (Nat × List Nat))
def zHouse (t : Nat) : zSh := .inr (.inl (0, [none, some (t+1), some (t+2), some (t+3), some (t+4), some (t+5), some (t+6), some (t+7), some (t+8), none, none, none, none, some (t+9), some (t+10)]))
def zSheet (t : Nat) : zSh := .inr (.inl (2, [some (t+1), none, none]))
/-- the shapes: the class's cells 0 to 46, the reference's 47 to 60 -/
def sh : Nat → zSh
  | 0 => .inr (.inl (4, [some 1, some 12, some 23, some 34, some 36, some 37, some 38, none]))
  | 1 => zHouse 1
  | 2 => .inl 8
  | 3 => .inl 8
  | 4 => .inl 8
  | 5 => .inl 8
  | 6 => .inl 8
  | 7 => .inl 6
  | 8 => .inl 6
  | 9 => .inl 10
  | 10 => .inl 6
  | 11 => .inl 6
  | 12 => zHouse 12
  | 13 => .inl 8
  | 14 => .inl 8
  | 15 => .inl 8
  | 16 => .inl 8
  | 17 => .inl 8
  | 18 => .inl 6
  | 19 => .inl 6
  | 20 => .inl 10
  | 21 => .inl 6
  | 22 => .inl 6
  | 23 => zHouse 23
  | 24 => .inl 8
  | 25 => .inl 8
  | 26 => .inl 8
  | 27 => .inl 8
  | 28 => .inl 8
  | 29 => .inl 6
  | 30 => .inl 6
  | 31 => .inl 10
  | 32 => .inl 6
  | 33 => .inl 6
  | 34 => .inr (.inl (3, [some 35, none]))
  | 35 => .inl 120
  | 36 => .inr (.inl (1, [some 900, none, none, none, none]))
  | 37 => .inr (.inr (1, [39, 41, 43, 45]))
  | 38 => .inl 7
  | 39 => zSheet 39
  | 40 => .inl 40
  | 41 => zSheet 41
  | 42 => .inl 40
  | 43 => zSheet 43
  | 44 => .inl 40
  | 45 => zSheet 45
  | 46 => .inl 40
  | 47 => .inr (.inl (5, [some 48, some 49, some 50, none, some 51, some 52, some 53, some 54, none, none, none, none, none, none, some 55, some 56, none, none, some 57, some 58, some 59, some 60]))
  | 48 => .inl 67
  | 49 => .inl 67
  | 50 => .inl 67
  | 51 => .inl 8
  | 52 => .inl 6
  | 53 => .inl 256
  | 54 => .inl 120
  | 55 => .inr (.inr (2, [1000, 1001, 1002, 1003, 1004, 1005, 1006]))
  | 56 => .inl 480
  | 57 => .inl 4
  | 58 => .inl 4
  | 59 => .inl 160
  | 60 => .inl 40
  | _ => .inl 0
def isH (t : Nat) : Prop := t = 1 ∨ t = 12 ∨ t = 23
def isS (t : Nat) : Prop := t = 39 ∨ t = 41 ∨ t = 43 ∨ t = 45
theorem shH {t : Nat} (h : isH t) : sh t = zHouse t := by rcases h with rfl | rfl | rfl <;> rfl
theorem shS {t : Nat} (h : isS t) : sh t = zSheet t := by rcases h with rfl | rfl | rfl | rfl <;> rfl
theorem isH_1 : isH 1 := Or.inl rfl
theorem isH_12 : isH 12 := Or.inr (Or.inl rfl)
theorem isH_23 : isH 23 := Or.inr (Or.inr rfl)
abbrev NC : Nat := 61
theorem isH_lt {t : Nat} (h : isH t) : t < NC := by rcases h with rfl | rfl | rfl <;> decide
theorem isS_lt {t : Nat} (h : isS t) : t < NC := by rcases h with rfl | rfl | rfl | rfl <;> decide
def zU (M : zM) (k j : Nat) (v : Int32) : zM := fun a => if a = k then upd (M k) j v else M a
/-- rows copied: n numbers of cell a from sp on into cell b from dp on -/
def zCp (M : zM) (a b sp dp n : Nat) : zM := fun q => if q = b then va_cpy (M a) (M b) sp dp n else M q
def zrd (M : zM) (k : Nat) (i : Int32) : Option Int32 := match sh k with
  | .inl n => if i < 0 ∨ n ≤ i.toNatClampNeg then none else some (M k i.toNatClampNeg)
  | _ => none
def zwr (M : zM) (k : Nat) (i v : Int32) : Option zM := match sh k with
  | .inl n => if i < 0 ∨ n ≤ i.toNatClampNeg then none else some (zU M k i.toNatClampNeg v)
  | _ => none
def zrr (k : Nat) (i : Int32) : Option Nat := match sh k with
  | .inr (.inr rs) => if i < 0 ∨ rs.2.length ≤ i.toNatClampNeg then none else rs.2[i.toNatClampNeg]?
  | _ => none
def zcp (M : zM) (a : Nat) (sp : Int32) (b : Nat) (dp n : Int32) : Option zM := match sh a, sh b with
  | .inl na, .inl nb => if sp < 0 ∨ dp < 0 ∨ n < 0 ∨ na < sp.toNatClampNeg + n.toNatClampNeg ∨ nb < dp.toNatClampNeg + n.toNatClampNeg then none else some (zCp M a b sp.toNatClampNeg dp.toNatClampNeg n.toNatClampNeg)
  | _, _ => none
/-- a boolean: 0 or 1 -/
def zbo (v : Int32) : Option Int32 := if v = 0 ∨ v = 1 then some v else none
def zdv (a b : Int32) : Option Int32 := if b = 0 then none else some (a / b)
def zrm (a b : Int32) : Option Int32 := if b = 0 then none else some (a - a / b * b)
def zIter {σ ρ : Type} (b : σ → Option (σ ⊕ ρ)) : Nat → σ → Option ρ
  | 0, _ => none
  | n + 1, s => (b s).bind fun y => match y with
    | .inl s' => zIter b n s'
    | .inr r => some r
/-- what follows a round of a loop -/
def zK' {σ ρ τ : Type} (b : σ → Option (σ ⊕ ρ)) (n : Nat) (K : ρ → Option τ) : σ ⊕ ρ → Option τ
  | .inl s' => (zIter b n s').bind K
  | .inr r => K r
theorem zIter_succ {σ ρ τ : Type} {b : σ → Option (σ ⊕ ρ)} {n : Nat} {s : σ} {K : ρ → Option τ} {y : τ} (h : (zIter b (n + 1) s).bind K = some y) : (b s).bind (zK' b n K) = some y := by
  unfold zIter at h
  cases hb : b s with
  | none => rw [hb] at h; cases h
  | some z =>
    rw [hb] at h
    cases z with
    | inl s' => exact h
    | inr r => exact h
/-- a loop: for every fuel and every state, by induction on the fuel -/
theorem zIter_loop {σ ρ τ : Type} {b : σ → Option (σ ⊕ ρ)} {K : ρ → Option τ} {y : τ} (P : σ → Prop) (hs : ∀ (n : Nat) (s : σ), (∀ s', (zIter b n s').bind K = some y → P s') → (b s).bind (zK' b n K) = some y → P s) : ∀ (n : Nat) (s : σ), (zIter b n s).bind K = some y → P s := by
  intro n
  induction n with
  | zero => intro s h; cases h
  | succ n ih => intro s h; exact hs n s ih (zIter_succ h)
theorem zB_bind {α β τ : Type} {o : Option α} {f : α → Option β} {K : β → Option τ} {y : τ} (h : (o.bind f).bind K = some y) : ∃ v, o = some v ∧ (f v).bind K = some y := by
  cases o with
  | none => cases h
  | some v => exact ⟨v, rfl, h⟩
theorem zB_tail {β τ : Type} {o : Option β} {K : β → Option τ} {y : τ} (h : o.bind K = some y) : ∃ v, o = some v ∧ K v = some y := by
  cases o with
  | none => cases h
  | some v => exact ⟨v, rfl, h⟩
theorem zB_pos {β τ : Type} {c : Prop} [Decidable c] {a b : Option β} {K : β → Option τ} {y : τ} (hc : c) (h : (if c then a else b).bind K = some y) : a.bind K = some y := by rwa [if_pos hc] at h
theorem zB_neg {β τ : Type} {c : Prop} [Decidable c] {a b : Option β} {K : β → Option τ} {y : τ} (hc : ¬ c) (h : (if c then a else b).bind K = some y) : b.bind K = some y := by rwa [if_neg hc] at h
-- the cells as the kit's worlds have them
def zfld (ad : Nat → Nat) (M : zM) (k j : Nat) : Option Nat → Value
  | none => .int (M k j)
  | some r => if r = 900 then (if M k j = 0 then .null else .ref (ad 34)) else .ref (ad r)
def zfl (ad : Nat → Nat) (M : zM) (k : Nat) : Nat → List (Option Nat) → List Value
  | _, [] => []
  | j, o :: l => zfld ad M k j o :: zfl ad M k (j + 1) l
theorem zfl_at (ad : Nat → Nat) (M : zM) (k : Nat) : ∀ (l : List (Option Nat)) (j0 j : Nat), (zfl ad M k j0 l)[j]? = (l[j]?).map (zfld ad M k (j0 + j)) := by
  intro l
  induction l with
  | nil => intro j0 j; simp [zfl]
  | cons o l ih =>
    intro j0 j
    cases j with
    | zero => simp [zfl]
    | succ j => simp only [zfl, List.getElem?_cons_succ, ih]; rw [show j0 + 1 + j = j0 + (j + 1) by omega]
theorem zfl_len (ad : Nat → Nat) (M : zM) (k : Nat) : ∀ (l : List (Option Nat)) (j0 : Nat), (zfl ad M k j0 l).length = l.length := by
  intro l
  induction l with
  | nil => intro j0; rfl
  | cons o l ih => intro j0; simp [zfl, ih]
theorem zU_same (M : zM) (k j : Nat) (v : Int32) : zU M k j v k j = v := by simp [zU, upd]
theorem zU_row (M : zM) (k j : Nat) (v : Int32) : zU M k j v k = upd (M k) j v := by simp [zU]
theorem zU_off {M : zM} {k j : Nat} {v : Int32} {k' : Nat} (h : k' ≠ k) : zU M k j v k' = M k' := by simp [zU, h]
theorem zfl_set {ad : Nat → Nat} {M : zM} {k j : Nat} {v : Int32} {l : List (Option Nat)} (hl : l[j]? = some none) : (zfl ad M k 0 l).set j (.int v) = zfl ad (zU M k j v) k 0 l := by
  apply List.ext_getElem?
  intro i
  rw [List.getElem?_set, zfl_at, zfl_at]
  have hlt : j < l.length := (List.getElem?_eq_some_iff.mp hl).1
  by_cases hi : j = i
  · subst hi
    rw [if_pos rfl, zfl_len, if_pos hlt, hl]
    simp [zfld, zU, upd]
  · rw [if_neg hi]
    congr 1
    funext o
    cases o with
    | none => simp [zfld, zU, upd, Ne.symm hi]
    | some r => simp [zfld, zU, upd, Ne.symm hi]
/-- the reader's tape, from null to the tape -/
theorem zfl_setR {ad : Nat → Nat} {M : zM} {k j : Nat} {l : List (Option Nat)} (hl : l[j]? = some (some 900)) : (zfl ad M k 0 l).set j (.ref (ad 34)) = zfl ad (zU M k j 1) k 0 l := by
  apply List.ext_getElem?
  intro i
  rw [List.getElem?_set, zfl_at, zfl_at]
  have hlt : j < l.length := (List.getElem?_eq_some_iff.mp hl).1
  by_cases hi : j = i
  · subst hi
    rw [if_pos rfl, zfl_len, if_pos hlt, hl]
    simp [zfld, zU, upd]
  · rw [if_neg hi]
    congr 1
    funext o
    cases o with
    | none => simp [zfld, zU, upd, Ne.symm hi]
    | some r => simp [zfld, zU, upd, Ne.symm hi]
abbrev zG : Type := va_G × ClassId × (Nat → ClassId)
def zE (G : zG) (ad : Nat → Nat) (M : zM) (k : Nat) : va_E := match sh k with
  | .inl n => .inl (G.2.1, n, .inl (M k))
  | .inr (.inl q) => .inr (q.1, zfl ad M k 0 q.2)
  | .inr (.inr rs) => .inl (G.2.2 rs.1, rs.2.length, .inr (.inr (.inr (.inr fun j => (rs.2[j]?).map ad))))
def zW (G : zG) (ad : Nat → Nat) (M : zM) : va_W := (List.range NC).map fun k => (ad k, zE G ad M k)
theorem zW_at {G : zG} {ad : Nat → Nat} {M : zM} {k : Nat} (hk : k < NC) : (zW G ad M)[k]? = some (ad k, zE G ad M k) := by
  unfold zW
  rw [List.getElem?_map, List.getElem?_range hk]
  rfl
theorem zE_off {G : zG} {ad : Nat → Nat} {M M' : zM} {k : Nat} (h : M' k = M k) : zE G ad M' k = zE G ad M k := by
  have hf : ∀ (l : List (Option Nat)) (j : Nat), zfl ad M' k j l = zfl ad M k j l := by
    intro l
    induction l with
    | nil => intro j; rfl
    | cons o l ih => intro j; cases o <;> simp [zfl, zfld, ih, h]
  unfold zE
  cases sh k with
  | inl n => simp [h]
  | inr q => cases q with
    | inl q => simp [hf]
    | inr rs => rfl
theorem zW_set {G : zG} {ad : Nat → Nat} {M M' : zM} {k : Nat} {e' : va_E} (hk : k < NC) (he : e' = zE G ad M' k) (ho : ∀ q, q ≠ k → M' q = M q) : (zW G ad M).set k (ad k, e') = zW G ad M' := by
  subst he
  apply List.ext_getElem?
  intro i
  rw [List.getElem?_set]
  by_cases hi : k = i
  · subst hi
    rw [if_pos rfl, zW_at hk, if_pos]
    unfold zW; simp; exact hk
  · rw [if_neg hi]
    by_cases hl : i < NC
    · rw [zW_at hl, zW_at hl, zE_off (ho i (Ne.symm hi))]
    · unfold zW; rw [List.getElem?_eq_none (by simp; omega), List.getElem?_eq_none (by simp; omega)]
/-- which cells a method may change: the world's, and those that are made -/
def zA (ad : Nat → Nat) (sz : Nat) : Nat → Prop := fun q => (∃ k, k < NC ∧ q = ad k) ∨ sz ≤ q
theorem zA_in {ad : Nat → Nat} {sz k : Nat} (hk : k < NC) : zA ad sz (ad k) := Or.inl ⟨k, hk, rfl⟩
theorem zA_mono {ad : Nat → Nat} {sz sz' : Nat} (h : sz ≤ sz') : ∀ q, zA ad sz' q → zA ad sz q := fun _ hq => hq.elim Or.inl (fun h' => Or.inr (Nat.le_trans h h'))
/-- the addresses are apart -/
def zInj (ad : Nat → Nat) : Prop := ∀ i j, i < NC → j < NC → ad i = ad j → i = j
theorem zD {G : zG} {ad : Nat → Nat} {M : zM} {sz : Nat} (h : zInj ad) : va_D (zA ad sz) (zW G ad M) := by
  have lt : ∀ {k : Nat} {q : Nat × va_E}, (zW G ad M)[k]? = some q → k < NC ∧ q.1 = ad k := by
    intro k q hq
    have hk : k < NC := by
      have := (List.getElem?_eq_some_iff.mp hq).1
      simpa [zW] using this
    rw [zW_at hk] at hq
    cases hq
    exact ⟨hk, rfl⟩
  refine ⟨fun i j p q hp hq e => ?_, fun k q hq => ?_⟩
  · obtain ⟨h1, h2⟩ := lt hp
    obtain ⟨h3, h4⟩ := lt hq
    exact h i j h1 h3 (by rw [← h2, ← h4, e])
  · obtain ⟨h1, h2⟩ := lt hq
    rw [h2]
    exact zA_in h1
-- values: references are numbers of cells
def cv (ad : Nat → Nat) : Value → Value
  | .ref k => .ref (ad k)
  | v => v
theorem cv_cat (ad : Nat → Nat) (v : Value) : (cv ad v).category = v.category := by cases v <;> rfl
-- the classes
abbrev zCl : List vw_C := [(RX0, TX0, 15), (RX2, TX2, 5), (RX3, TX3, 3), (RX4, TX4, 2), (RX5, TX5, 8), (RX6, TX6, 22)]
abbrev zTy (G : zG) : List (ClassId × FieldType) := [(G.2.1, .int), (G.2.2 1, .object "NameRail$Sheet"), (G.2.2 2, .object "java/lang/String")]
/-- the good words of the tables -/
def zTB : List Cond := lw_tbl.filter goodWord
theorem zw {w : Cond} (i : Nat) (h : (lw_tbl[i]? == some w && goodWord w) = true) : w ∈ zTB := by
  simp only [Bool.and_eq_true, beq_iff_eq] at h
  exact List.mem_filter.mpr ⟨List.mem_of_getElem? h.1, h.2⟩
theorem zTB_good (w : Cond) (h : w ∈ zTB) : w ∈ lw_tbl ∧ goodWord w = true := List.mem_filter.mp h
theorem zTB_goodIn {c : Cond} {ws : List Cond} (hw : c ∈ zTB) (hs : ∀ w ∈ ws, w ∈ zTB) : GoodIn zTB (c :: ws) := by
  intro w h
  rcases List.mem_cons.mp h with rfl | h
  · exact ⟨hw, good_of_word (zTB_good _ hw).2⟩
  · exact ⟨hs _ h, good_of_word (zTB_good _ (hs _ h)).2⟩
end
section
/-! The words of the tables that the walks use, by their places. -/
theorem w0 : Cond.selects "NameRail" ⟨"NameRail", "finding", "(I)I"⟩ ⟨"NameRail", "finding", "(I)I"⟩ ∈ zTB := zw 0 (by decide +kernel)
theorem w1 : Cond.selects "NameRail" ⟨"NameRail", "isName", "(I)Z"⟩ ⟨"NameRail", "isName", "(I)Z"⟩ ∈ zTB := zw 1 (by decide +kernel)
theorem w2 : Cond.selects "NameRail" ⟨"NameRail", "changed", "([IIIZ)I"⟩ ⟨"NameRail", "changed", "([IIIZ)I"⟩ ∈ zTB := zw 2 (by decide +kernel)
theorem w3 : Cond.selects "NameRail" ⟨"NameRail", "isNameOrNone", "(I)Z"⟩ ⟨"NameRail", "isNameOrNone", "(I)Z"⟩ ∈ zTB := zw 3 (by decide +kernel)
theorem w4 : Cond.selects "NameRail" ⟨"NameRail", "richestWith", "(II)I"⟩ ⟨"NameRail", "richestWith", "(II)I"⟩ ∈ zTB := zw 4 (by decide +kernel)
theorem w5 : Cond.selects "NameRail" ⟨"NameRail", "faultOfFit", "(II)I"⟩ ⟨"NameRail", "faultOfFit", "(II)I"⟩ ∈ zTB := zw 5 (by decide +kernel)
theorem w6 : Cond.selects "NameRail" ⟨"NameRail", "fitting", "(LNameRail$Sheet;I)I"⟩ ⟨"NameRail", "fitting", "(LNameRail$Sheet;I)I"⟩ ∈ zTB := zw 6 (by decide +kernel)
theorem w7 : Cond.selects "NameRail$Reader" ⟨"NameRail$Reader", "step", "()V"⟩ ⟨"NameRail$Reader", "step", "()V"⟩ ∈ zTB := zw 7 (by decide +kernel)
theorem w8 : Cond.selects "NameRail$Reader" ⟨"NameRail$Reader", "stepWord", "()V"⟩ ⟨"NameRail$Reader", "stepWord", "()V"⟩ ∈ zTB := zw 8 (by decide +kernel)
theorem w9 : Cond.selects "NameRail$Reader" ⟨"NameRail$Reader", "stepNumber", "()V"⟩ ⟨"NameRail$Reader", "stepNumber", "()V"⟩ ∈ zTB := zw 9 (by decide +kernel)
theorem w10 : Cond.selects "NameRail$Reader" ⟨"NameRail$Reader", "item", "(LNameRail$House;)Z"⟩ ⟨"NameRail$Reader", "item", "(LNameRail$House;)Z"⟩ ∈ zTB := zw 10 (by decide +kernel)
theorem w11 : Cond.selects "NameRail$Reader" ⟨"NameRail$Reader", "kindTold", "()I"⟩ ⟨"NameRail$Reader", "kindTold", "()I"⟩ ∈ zTB := zw 11 (by decide +kernel)
theorem w12 : Cond.selects "NameRail$Reader" ⟨"NameRail$Reader", "isWord", "(Ljava/lang/String;)Z"⟩ ⟨"NameRail$Reader", "isWord", "(Ljava/lang/String;)Z"⟩ ∈ zTB := zw 12 (by decide +kernel)
theorem w13 : Cond.selects "NameRail$Reader" ⟨"NameRail$Reader", "nameItem", "(LNameRail$House;I)Z"⟩ ⟨"NameRail$Reader", "nameItem", "(LNameRail$House;I)Z"⟩ ∈ zTB := zw 13 (by decide +kernel)
theorem w14 : Cond.selects "NameRail$Reader" ⟨"NameRail$Reader", "isNumberTo", "(I)Z"⟩ ⟨"NameRail$Reader", "isNumberTo", "(I)Z"⟩ ∈ zTB := zw 14 (by decide +kernel)
theorem w15 : Cond.selects "NameRail$Reader" ⟨"NameRail$Reader", "personItem", "(LNameRail$House;)Z"⟩ ⟨"NameRail$Reader", "personItem", "(LNameRail$House;)Z"⟩ ∈ zTB := zw 15 (by decide +kernel)
theorem w16 : Cond.selects "NameRail$Reader" ⟨"NameRail$Reader", "orderItem", "(LNameRail$House;)Z"⟩ ⟨"NameRail$Reader", "orderItem", "(LNameRail$House;)Z"⟩ ∈ zTB := zw 16 (by decide +kernel)
theorem w17 : Cond.selects "NameRailModel" ⟨"NameRailModel", "finding", "(I)I"⟩ ⟨"NameRailModel", "finding", "(I)I"⟩ ∈ zTB := zw 17 (by decide +kernel)
theorem w18 : Cond.selects "NameRailModel" ⟨"NameRailModel", "comes", "(IIII)I"⟩ ⟨"NameRailModel", "comes", "(IIII)I"⟩ ∈ zTB := zw 18 (by decide +kernel)
theorem w19 : Cond.selects "NameRailModel" ⟨"NameRailModel", "isName", "(I)Z"⟩ ⟨"NameRailModel", "isName", "(I)Z"⟩ ∈ zTB := zw 19 (by decide +kernel)
theorem w20 : Cond.selects "NameRailModel" ⟨"NameRailModel", "dueOf", "(I)I"⟩ ⟨"NameRailModel", "dueOf", "(I)I"⟩ ∈ zTB := zw 20 (by decide +kernel)
theorem w21 : Cond.selects "NameRailModel" ⟨"NameRailModel", "nameIs", "(II)I"⟩ ⟨"NameRailModel", "nameIs", "(II)I"⟩ ∈ zTB := zw 21 (by decide +kernel)
theorem w22 : Cond.selects "NameRailModel" ⟨"NameRailModel", "fadesBy", "(I)I"⟩ ⟨"NameRailModel", "fadesBy", "(I)I"⟩ ∈ zTB := zw 22 (by decide +kernel)
theorem w23 : Cond.selects "NameRailModel" ⟨"NameRailModel", "hangs", "(I)Z"⟩ ⟨"NameRailModel", "hangs", "(I)Z"⟩ ∈ zTB := zw 23 (by decide +kernel)
theorem w24 : Cond.selects "NameRailModel" ⟨"NameRailModel", "foesOf", "(I)I"⟩ ⟨"NameRailModel", "foesOf", "(I)I"⟩ ∈ zTB := zw 24 (by decide +kernel)
theorem w25 : Cond.selects "NameRailModel" ⟨"NameRailModel", "doQuarrel", "(II)Z"⟩ ⟨"NameRailModel", "doQuarrel", "(II)Z"⟩ ∈ zTB := zw 25 (by decide +kernel)
theorem w26 : Cond.selects "NameRailModel" ⟨"NameRailModel", "mayBe", "(III)Z"⟩ ⟨"NameRailModel", "mayBe", "(III)Z"⟩ ∈ zTB := zw 26 (by decide +kernel)
theorem w27 : Cond.selects "NameRailModel" ⟨"NameRailModel", "become", "(II)I"⟩ ⟨"NameRailModel", "become", "(II)I"⟩ ∈ zTB := zw 27 (by decide +kernel)
theorem w28 : Cond.selects "NameRailModel" ⟨"NameRailModel", "placeOf", "(I)I"⟩ ⟨"NameRailModel", "placeOf", "(I)I"⟩ ∈ zTB := zw 28 (by decide +kernel)
theorem w29 : Cond.selects "NameRailModel" ⟨"NameRailModel", "days", "(I)V"⟩ ⟨"NameRailModel", "days", "(I)V"⟩ ∈ zTB := zw 29 (by decide +kernel)
theorem w30 : Cond.selects "NameRailModel" ⟨"NameRailModel", "day", "()V"⟩ ⟨"NameRailModel", "day", "()V"⟩ ∈ zTB := zw 30 (by decide +kernel)
theorem w31 : Cond.selects "NameRailModel" ⟨"NameRailModel", "drawBy", "(I)I"⟩ ⟨"NameRailModel", "drawBy", "(I)I"⟩ ∈ zTB := zw 31 (by decide +kernel)
theorem w32 : Cond.selects "NameRailModel" ⟨"NameRailModel", "leastLeft", "(I)I"⟩ ⟨"NameRailModel", "leastLeft", "(I)I"⟩ ∈ zTB := zw 32 (by decide +kernel)
theorem w33 : Cond.selects "NameRailModel" ⟨"NameRailModel", "pays", "(I)V"⟩ ⟨"NameRailModel", "pays", "(I)V"⟩ ∈ zTB := zw 33 (by decide +kernel)
theorem w34 : Cond.selects "NameRailModel" ⟨"NameRailModel", "quarrelsIn", "(I)I"⟩ ⟨"NameRailModel", "quarrelsIn", "(I)I"⟩ ∈ zTB := zw 34 (by decide +kernel)
theorem w35 : Cond.selects "NameRailModel" ⟨"NameRailModel", "purses", "()I"⟩ ⟨"NameRailModel", "purses", "()I"⟩ ∈ zTB := zw 35 (by decide +kernel)
theorem w36 : Cond.selects "NameRailModel" ⟨"NameRailModel", "hungNow", "()I"⟩ ⟨"NameRailModel", "hungNow", "()I"⟩ ∈ zTB := zw 36 (by decide +kernel)
theorem w37 : Cond.selects "NameRailModel" ⟨"NameRailModel", "debts", "()I"⟩ ⟨"NameRailModel", "debts", "()I"⟩ ∈ zTB := zw 37 (by decide +kernel)
theorem w38 : Cond.selects "NameRailModel" ⟨"NameRailModel", "behind", "(II)I"⟩ ⟨"NameRailModel", "behind", "(II)I"⟩ ∈ zTB := zw 38 (by decide +kernel)
theorem w39 : Cond.selects "NameRailModel" ⟨"NameRailModel", "putBack", "(I)I"⟩ ⟨"NameRailModel", "putBack", "(I)I"⟩ ∈ zTB := zw 39 (by decide +kernel)
theorem w40 : Cond.selects "NameRailModel" ⟨"NameRailModel", "hungFor", "(I)I"⟩ ⟨"NameRailModel", "hungFor", "(I)I"⟩ ∈ zTB := zw 40 (by decide +kernel)
theorem w41 : Cond.selects "NameRailModel" ⟨"NameRailModel", "orNone", "(I)I"⟩ ⟨"NameRailModel", "orNone", "(I)I"⟩ ∈ zTB := zw 41 (by decide +kernel)
theorem w42 : Cond.selects "NameRailModel" ⟨"NameRailModel", "doesDraw", "(III)Z"⟩ ⟨"NameRailModel", "doesDraw", "(III)Z"⟩ ∈ zTB := zw 42 (by decide +kernel)
theorem w43 : Cond.selects "NameRailModel" ⟨"NameRailModel", "leastOrder", "(Z)I"⟩ ⟨"NameRailModel", "leastOrder", "(Z)I"⟩ ∈ zTB := zw 43 (by decide +kernel)
theorem w44 : Cond.selects "NameRailModel" ⟨"NameRailModel", "duesIn", "(I)I"⟩ ⟨"NameRailModel", "duesIn", "(I)I"⟩ ∈ zTB := zw 44 (by decide +kernel)
theorem w45 : Cond.selects "NameRailModel" ⟨"NameRailModel", "greatest", "(IIIII)I"⟩ ⟨"NameRailModel", "greatest", "(IIIII)I"⟩ ∈ zTB := zw 45 (by decide +kernel)
theorem w46 : Cond.selects "NameRailModel" ⟨"NameRailModel", "isPeace", "(I)Z"⟩ ⟨"NameRailModel", "isPeace", "(I)Z"⟩ ∈ zTB := zw 46 (by decide +kernel)
theorem w47 : Cond.selects "NameRailModel" ⟨"NameRailModel", "pursesBy", "(II)I"⟩ ⟨"NameRailModel", "pursesBy", "(II)I"⟩ ∈ zTB := zw 47 (by decide +kernel)
theorem w48 : Cond.selects "NameRailModel" ⟨"NameRailModel", "putBackPurses", "()I"⟩ ⟨"NameRailModel", "putBackPurses", "()I"⟩ ∈ zTB := zw 48 (by decide +kernel)
theorem w49 : Cond.selects "NameRailModel" ⟨"NameRailModel", "lacks", "(I)I"⟩ ⟨"NameRailModel", "lacks", "(I)I"⟩ ∈ zTB := zw 49 (by decide +kernel)
theorem w50 : Cond.selects "NameRailModel" ⟨"NameRailModel", "fitting", "(II)I"⟩ ⟨"NameRailModel", "fitting", "(II)I"⟩ ∈ zTB := zw 50 (by decide +kernel)
theorem w51 : Cond.selects "NameRailModel" ⟨"NameRailModel", "wentSo", "(II)Z"⟩ ⟨"NameRailModel", "wentSo", "(II)Z"⟩ ∈ zTB := zw 51 (by decide +kernel)
theorem w52 : Cond.selects "NameRailModel" ⟨"NameRailModel", "drawnNumber", "()I"⟩ ⟨"NameRailModel", "drawnNumber", "()I"⟩ ∈ zTB := zw 52 (by decide +kernel)
theorem w53 : Cond.selects "NameRailModel" ⟨"NameRailModel", "next", "()V"⟩ ⟨"NameRailModel", "next", "()V"⟩ ∈ zTB := zw 53 (by decide +kernel)
theorem w54 : Cond.selects "NameRailModel" ⟨"NameRailModel", "byteAt", "(I)I"⟩ ⟨"NameRailModel", "byteAt", "(I)I"⟩ ∈ zTB := zw 54 (by decide +kernel)
theorem w55 : Cond.selects "NameRailModel" ⟨"NameRailModel", "readItem", "()V"⟩ ⟨"NameRailModel", "readItem", "()V"⟩ ∈ zTB := zw 55 (by decide +kernel)
theorem w56 : Cond.selects "NameRailModel" ⟨"NameRailModel", "kindTold", "()I"⟩ ⟨"NameRailModel", "kindTold", "()I"⟩ ∈ zTB := zw 56 (by decide +kernel)
theorem w57 : Cond.selects "NameRailModel" ⟨"NameRailModel", "isWord", "(Ljava/lang/String;)Z"⟩ ⟨"NameRailModel", "isWord", "(Ljava/lang/String;)Z"⟩ ∈ zTB := zw 57 (by decide +kernel)
theorem w58 : Cond.selects "NameRailModel" ⟨"NameRailModel", "must", "(Z)V"⟩ ⟨"NameRailModel", "must", "(Z)V"⟩ ∈ zTB := zw 58 (by decide +kernel)
theorem w59 : Cond.selects "NameRailModel" ⟨"NameRailModel", "number", "(II)I"⟩ ⟨"NameRailModel", "number", "(II)I"⟩ ∈ zTB := zw 59 (by decide +kernel)
theorem w60 : Cond.selects "NameRailModel" ⟨"NameRailModel", "afterWord", "(Ljava/lang/String;II)I"⟩ ⟨"NameRailModel", "afterWord", "(Ljava/lang/String;II)I"⟩ ∈ zTB := zw 60 (by decide +kernel)
theorem w61 : Cond.selects "NameRailModel" ⟨"NameRailModel", "item", "(IIII)V"⟩ ⟨"NameRailModel", "item", "(IIII)V"⟩ ∈ zTB := zw 61 (by decide +kernel)
theorem w62 : Cond.selects "NameRailModel" ⟨"NameRailModel", "isToldSo", "(I)I"⟩ ⟨"NameRailModel", "isToldSo", "(I)I"⟩ ∈ zTB := zw 62 (by decide +kernel)
theorem w64 : Cond.initialized "NameRail" ∈ zTB := zw 64 (by decide +kernel)
theorem w65 : Cond.initialized "NameRail$House" ∈ zTB := zw 65 (by decide +kernel)
theorem w66 : Cond.initialized "NameRail$Tape" ∈ zTB := zw 66 (by decide +kernel)
theorem w67 : Cond.initialized "NameRail$Reader" ∈ zTB := zw 67 (by decide +kernel)
theorem w68 : Cond.initialized "NameRail$Sheet" ∈ zTB := zw 68 (by decide +kernel)
theorem w69 : Cond.initialized "NameRailModel" ∈ zTB := zw 69 (by decide +kernel)
theorem w70 : Cond.initialized "NameRail$Kinds" ∈ zTB := zw 70 (by decide +kernel)
theorem w71 : Cond.initialized "java/lang/Math" ∈ zTB := zw 71 (by decide +kernel)
theorem w72 : Cond.initialized "java/lang/Integer" ∈ zTB := zw 72 (by decide +kernel)
theorem w73 : Cond.initialized "java/lang/System" ∈ zTB := zw 73 (by decide +kernel)
theorem w74 : Cond.initialized "java/lang/String" ∈ zTB := zw 74 (by decide +kernel)
theorem w75 : Cond.initialized "java/lang/StringLatin1" ∈ zTB := zw 75 (by decide +kernel)
theorem w76 : Cond.initialized "jdk/internal/util/Preconditions" ∈ zTB := zw 76 (by decide +kernel)
theorem w92 : Cond.fieldLink "NameRail$House" 9 "NameRail$House" "names" "I" ∈ zTB := zw 92 (by decide +kernel)
theorem w93 : Cond.fieldLink "NameRail" 59 "NameRail$House" "names" "I" ∈ zTB := zw 93 (by decide +kernel)
theorem w94 : Cond.fieldLink "NameRail$Reader" 93 "NameRail$House" "names" "I" ∈ zTB := zw 94 (by decide +kernel)
theorem w95 : Cond.fieldLink "NameRail$House" 15 "NameRail$House" "kind" "[I" ∈ zTB := zw 95 (by decide +kernel)
theorem w96 : Cond.fieldLink "NameRail" 71 "NameRail$House" "kind" "[I" ∈ zTB := zw 96 (by decide +kernel)
theorem w97 : Cond.fieldLink "NameRail$House" 19 "NameRail$House" "duty" "[I" ∈ zTB := zw 97 (by decide +kernel)
theorem w98 : Cond.fieldLink "NameRail" 74 "NameRail$House" "duty" "[I" ∈ zTB := zw 98 (by decide +kernel)
theorem w99 : Cond.fieldLink "NameRail$House" 22 "NameRail$House" "wear" "[I" ∈ zTB := zw 99 (by decide +kernel)
theorem w100 : Cond.fieldLink "NameRail" 77 "NameRail$House" "wear" "[I" ∈ zTB := zw 100 (by decide +kernel)
theorem w101 : Cond.fieldLink "NameRail$House" 25 "NameRail$House" "debt" "[I" ∈ zTB := zw 101 (by decide +kernel)
theorem w102 : Cond.fieldLink "NameRail" 80 "NameRail$House" "debt" "[I" ∈ zTB := zw 102 (by decide +kernel)
theorem w103 : Cond.fieldLink "NameRail$House" 28 "NameRail$House" "foe" "[I" ∈ zTB := zw 103 (by decide +kernel)
theorem w104 : Cond.fieldLink "NameRail" 83 "NameRail$House" "foe" "[I" ∈ zTB := zw 104 (by decide +kernel)
theorem w105 : Cond.fieldLink "NameRail$House" 31 "NameRail$House" "purse" "[I" ∈ zTB := zw 105 (by decide +kernel)
theorem w106 : Cond.fieldLink "NameRail" 111 "NameRail$House" "purse" "[I" ∈ zTB := zw 106 (by decide +kernel)
theorem w107 : Cond.fieldLink "NameRail$Reader" 125 "NameRail$House" "purse" "[I" ∈ zTB := zw 107 (by decide +kernel)
theorem w108 : Cond.fieldLink "NameRail$House" 34 "NameRail$House" "wish" "[I" ∈ zTB := zw 108 (by decide +kernel)
theorem w109 : Cond.fieldLink "NameRail" 114 "NameRail$House" "wish" "[I" ∈ zTB := zw 109 (by decide +kernel)
theorem w110 : Cond.fieldLink "NameRail$Reader" 130 "NameRail$House" "wish" "[I" ∈ zTB := zw 110 (by decide +kernel)
theorem w111 : Cond.fieldLink "NameRail$House" 37 "NameRail$House" "spots" "[I" ∈ zTB := zw 111 (by decide +kernel)
theorem w112 : Cond.fieldLink "NameRail" 224 "NameRail$House" "spots" "[I" ∈ zTB := zw 112 (by decide +kernel)
theorem w113 : Cond.fieldLink "NameRail$House" 40 "NameRail$House" "order" "I" ∈ zTB := zw 113 (by decide +kernel)
theorem w114 : Cond.fieldLink "NameRail" 123 "NameRail$House" "order" "I" ∈ zTB := zw 114 (by decide +kernel)
theorem w115 : Cond.fieldLink "NameRail$Reader" 133 "NameRail$House" "order" "I" ∈ zTB := zw 115 (by decide +kernel)
theorem w116 : Cond.fieldLink "NameRail$House" 43 "NameRail$House" "day" "I" ∈ zTB := zw 116 (by decide +kernel)
theorem w117 : Cond.fieldLink "NameRail" 133 "NameRail$House" "day" "I" ∈ zTB := zw 117 (by decide +kernel)
theorem w118 : Cond.fieldLink "NameRail$House" 46 "NameRail$House" "quarrels" "I" ∈ zTB := zw 118 (by decide +kernel)
theorem w119 : Cond.fieldLink "NameRail" 149 "NameRail$House" "quarrels" "I" ∈ zTB := zw 119 (by decide +kernel)
theorem w120 : Cond.fieldLink "NameRail$House" 49 "NameRail$House" "z" "I" ∈ zTB := zw 120 (by decide +kernel)
theorem w121 : Cond.fieldLink "NameRail" 211 "NameRail$House" "z" "I" ∈ zTB := zw 121 (by decide +kernel)
theorem w122 : Cond.fieldLink "NameRail$House" 52 "NameRail$House" "line" "[I" ∈ zTB := zw 122 (by decide +kernel)
theorem w123 : Cond.fieldLink "NameRail" 130 "NameRail$House" "line" "[I" ∈ zTB := zw 123 (by decide +kernel)
theorem w124 : Cond.fieldLink "NameRail$House" 55 "NameRail$House" "drawn" "[I" ∈ zTB := zw 124 (by decide +kernel)
theorem w125 : Cond.fieldLink "NameRail" 161 "NameRail$House" "drawn" "[I" ∈ zTB := zw 125 (by decide +kernel)
theorem w164 : Cond.fieldLink "NameRail$Tape" 9 "NameRail$Tape" "bytes" "[I" ∈ zTB := zw 164 (by decide +kernel)
theorem w165 : Cond.fieldLink "NameRail$Tape" 15 "NameRail$Tape" "length" "I" ∈ zTB := zw 165 (by decide +kernel)
theorem w166 : Cond.fieldLink "NameRail" 214 "NameRail$Tape" "length" "I" ∈ zTB := zw 166 (by decide +kernel)
theorem w178 : Cond.fieldLink "NameRail$Reader" 9 "NameRail$Reader" "tape" "LNameRail$Tape;" ∈ zTB := zw 178 (by decide +kernel)
theorem w179 : Cond.fieldLink "NameRail$Reader" 29 "NameRail$Reader" "sort" "I" ∈ zTB := zw 179 (by decide +kernel)
theorem w180 : Cond.fieldLink "NameRail$Reader" 26 "NameRail$Reader" "first" "I" ∈ zTB := zw 180 (by decide +kernel)
theorem w181 : Cond.fieldLink "NameRail$Reader" 15 "NameRail$Reader" "behind" "I" ∈ zTB := zw 181 (by decide +kernel)
theorem w182 : Cond.fieldLink "NameRail$Reader" 51 "NameRail$Reader" "value" "I" ∈ zTB := zw 182 (by decide +kernel)
theorem w201 : Cond.fieldLink "NameRail$Sheet" 9 "NameRail$Sheet" "numbers" "[I" ∈ zTB := zw 201 (by decide +kernel)
theorem w202 : Cond.fieldLink "NameRail$House" 125 "NameRail$Sheet" "numbers" "[I" ∈ zTB := zw 202 (by decide +kernel)
theorem w203 : Cond.fieldLink "NameRail" 247 "NameRail$Sheet" "numbers" "[I" ∈ zTB := zw 203 (by decide +kernel)
theorem w204 : Cond.fieldLink "NameRail$Sheet" 15 "NameRail$Sheet" "bits" "I" ∈ zTB := zw 204 (by decide +kernel)
theorem w205 : Cond.fieldLink "NameRail" 238 "NameRail$Sheet" "bits" "I" ∈ zTB := zw 205 (by decide +kernel)
theorem w206 : Cond.fieldLink "NameRail$Sheet" 19 "NameRail$Sheet" "length" "I" ∈ zTB := zw 206 (by decide +kernel)
theorem w207 : Cond.fieldLink "NameRail$House" 120 "NameRail$Sheet" "length" "I" ∈ zTB := zw 207 (by decide +kernel)
theorem w208 : Cond.fieldLink "NameRail" 237 "NameRail$Sheet" "length" "I" ∈ zTB := zw 208 (by decide +kernel)
theorem w216 : Cond.fieldLink "NameRail" 10 "NameRail" "house" "LNameRail$House;" ∈ zTB := zw 216 (by decide +kernel)
theorem w217 : Cond.fieldLink "NameRail" 16 "NameRail" "kept" "LNameRail$House;" ∈ zTB := zw 217 (by decide +kernel)
theorem w218 : Cond.fieldLink "NameRail" 19 "NameRail" "trial" "LNameRail$House;" ∈ zTB := zw 218 (by decide +kernel)
theorem w219 : Cond.fieldLink "NameRail" 25 "NameRail" "tape" "LNameRail$Tape;" ∈ zTB := zw 219 (by decide +kernel)
theorem w220 : Cond.fieldLink "NameRail" 32 "NameRail" "reader" "LNameRail$Reader;" ∈ zTB := zw 220 (by decide +kernel)
theorem w221 : Cond.fieldLink "NameRail" 38 "NameRail" "sheets" "[LNameRail$Sheet;" ∈ zTB := zw 221 (by decide +kernel)
theorem w222 : Cond.fieldLink "NameRail" 42 "NameRail" "found" "[I" ∈ zTB := zw 222 (by decide +kernel)
theorem w223 : Cond.fieldLink "NameRail" 46 "NameRail" "keeps" "Z" ∈ zTB := zw 223 (by decide +kernel)
theorem w244 : Cond.code ⟨"NameRail", "name", "(II)I"⟩ prog_1_method_2_code 3 (some FieldType.int) ∈ zTB := zw 244 (by decide +kernel)
theorem w245 : Cond.methodLink "NameRail" 51 ⟨"NameRail", "within", "(III)Z"⟩ ∈ zTB := zw 245 (by decide +kernel)
theorem w246 : Cond.static ⟨"NameRail", "within", "(III)Z"⟩ ∈ zTB := zw 246 (by decide +kernel)
theorem w247 : Cond.code ⟨"NameRail", "within", "(III)Z"⟩ prog_1_method_51_code 3 (some FieldType.boolean) ∈ zTB := zw 247 (by decide +kernel)
theorem w248 : Cond.methodLink "NameRail" 55 ⟨"NameRail", "finding", "(I)I"⟩ ∈ zTB := zw 248 (by decide +kernel)
theorem w250 : Cond.instanceMethod ⟨"NameRail", "finding", "(I)I"⟩ ∈ zTB := zw 250 (by decide +kernel)
theorem w251 : Cond.code ⟨"NameRail", "finding", "(I)I"⟩ prog_1_method_50_code 2 (some FieldType.int) ∈ zTB := zw 251 (by decide +kernel)
theorem w252 : Cond.constant "NameRail" 259 (-1000001 : Int32) ∈ zTB := zw 252 (by decide +kernel)
theorem w253 : Cond.methodLink "NameRail" 63 ⟨"NameRail$House", "hangUp", "(IIII)I"⟩ ∈ zTB := zw 253 (by decide +kernel)
theorem w254 : Cond.instanceMethod ⟨"NameRail$House", "hangUp", "(IIII)I"⟩ ∈ zTB := zw 254 (by decide +kernel)
theorem w255 : Cond.selects "NameRail$House" ⟨"NameRail$House", "hangUp", "(IIII)I"⟩ ⟨"NameRail$House", "hangUp", "(IIII)I"⟩ ∈ zTB := zw 255 (by decide +kernel)
theorem w256 : Cond.code ⟨"NameRail$House", "hangUp", "(IIII)I"⟩ prog_2_method_3_code 5 (some FieldType.int) ∈ zTB := zw 256 (by decide +kernel)
theorem w260 : Cond.code ⟨"NameRail", "of", "(II)I"⟩ prog_1_method_3_code 3 (some FieldType.int) ∈ zTB := zw 260 (by decide +kernel)
theorem w261 : Cond.methodLink "NameRail" 67 ⟨"NameRail", "isName", "(I)Z"⟩ ∈ zTB := zw 261 (by decide +kernel)
theorem w263 : Cond.instanceMethod ⟨"NameRail", "isName", "(I)Z"⟩ ∈ zTB := zw 263 (by decide +kernel)
theorem w264 : Cond.code ⟨"NameRail", "isName", "(I)Z"⟩ prog_1_method_54_code 2 (some FieldType.boolean) ∈ zTB := zw 264 (by decide +kernel)
theorem w265 : Cond.methodLink "NameRail" 86 ⟨"NameRail$House", "due", "(I)I"⟩ ∈ zTB := zw 265 (by decide +kernel)
theorem w266 : Cond.instanceMethod ⟨"NameRail$House", "due", "(I)I"⟩ ∈ zTB := zw 266 (by decide +kernel)
theorem w267 : Cond.selects "NameRail$House" ⟨"NameRail$House", "due", "(I)I"⟩ ⟨"NameRail$House", "due", "(I)I"⟩ ∈ zTB := zw 267 (by decide +kernel)
theorem w268 : Cond.code ⟨"NameRail$House", "due", "(I)I"⟩ prog_2_method_4_code 2 (some FieldType.int) ∈ zTB := zw 268 (by decide +kernel)
theorem w269 : Cond.methodLink "NameRail$House" 64 ⟨"NameRail$Kinds", "due", "(IIII)I"⟩ ∈ zTB := zw 269 (by decide +kernel)
theorem w270 : Cond.static ⟨"NameRail$Kinds", "due", "(IIII)I"⟩ ∈ zTB := zw 270 (by decide +kernel)
theorem w271 : Cond.code ⟨"NameRail$Kinds", "due", "(IIII)I"⟩ prog_3_method_4_code 6 (some FieldType.int) ∈ zTB := zw 271 (by decide +kernel)
theorem w272 : Cond.methodLink "NameRail" 89 ⟨"NameRail$Kinds", "fades", "(I)I"⟩ ∈ zTB := zw 272 (by decide +kernel)
theorem w273 : Cond.static ⟨"NameRail$Kinds", "fades", "(I)I"⟩ ∈ zTB := zw 273 (by decide +kernel)
theorem w274 : Cond.code ⟨"NameRail$Kinds", "fades", "(I)I"⟩ prog_3_method_5_code 1 (some FieldType.int) ∈ zTB := zw 274 (by decide +kernel)
theorem w275 : Cond.methodLink "NameRail" 94 ⟨"NameRail$House", "hangs", "(I)Z"⟩ ∈ zTB := zw 275 (by decide +kernel)
theorem w276 : Cond.instanceMethod ⟨"NameRail$House", "hangs", "(I)Z"⟩ ∈ zTB := zw 276 (by decide +kernel)
theorem w277 : Cond.selects "NameRail$House" ⟨"NameRail$House", "hangs", "(I)Z"⟩ ⟨"NameRail$House", "hangs", "(I)Z"⟩ ∈ zTB := zw 277 (by decide +kernel)
theorem w278 : Cond.code ⟨"NameRail$House", "hangs", "(I)Z"⟩ prog_2_method_5_code 2 (some FieldType.boolean) ∈ zTB := zw 278 (by decide +kernel)
theorem w279 : Cond.methodLink "NameRail" 97 ⟨"NameRail$House", "foesOf", "(I)I"⟩ ∈ zTB := zw 279 (by decide +kernel)
theorem w280 : Cond.instanceMethod ⟨"NameRail$House", "foesOf", "(I)I"⟩ ∈ zTB := zw 280 (by decide +kernel)
theorem w281 : Cond.selects "NameRail$House" ⟨"NameRail$House", "foesOf", "(I)I"⟩ ⟨"NameRail$House", "foesOf", "(I)I"⟩ ∈ zTB := zw 281 (by decide +kernel)
theorem w282 : Cond.code ⟨"NameRail$House", "foesOf", "(I)I"⟩ prog_2_method_7_code 4 (some FieldType.int) ∈ zTB := zw 282 (by decide +kernel)
theorem w286 : Cond.code ⟨"NameRail", "change", "(III)I"⟩ prog_1_method_4_code 4 (some FieldType.int) ∈ zTB := zw 286 (by decide +kernel)
theorem w287 : Cond.methodLink "NameRail" 100 ⟨"NameRail", "changed", "([IIIZ)I"⟩ ∈ zTB := zw 287 (by decide +kernel)
theorem w289 : Cond.instanceMethod ⟨"NameRail", "changed", "([IIIZ)I"⟩ ∈ zTB := zw 289 (by decide +kernel)
theorem w290 : Cond.code ⟨"NameRail", "changed", "([IIIZ)I"⟩ prog_1_method_59_code 6 (some FieldType.int) ∈ zTB := zw 290 (by decide +kernel)
theorem w291 : Cond.constant "NameRail" 104 (99999 : Int32) ∈ zTB := zw 291 (by decide +kernel)
theorem w292 : Cond.methodLink "NameRail" 105 ⟨"NameRail", "isNameOrNone", "(I)Z"⟩ ∈ zTB := zw 292 (by decide +kernel)
theorem w294 : Cond.instanceMethod ⟨"NameRail", "isNameOrNone", "(I)Z"⟩ ∈ zTB := zw 294 (by decide +kernel)
theorem w295 : Cond.code ⟨"NameRail", "isNameOrNone", "(I)Z"⟩ prog_1_method_55_code 2 (some FieldType.boolean) ∈ zTB := zw 295 (by decide +kernel)
theorem w299 : Cond.code ⟨"NameRail", "person", "(III)I"⟩ prog_1_method_5_code 4 (some FieldType.int) ∈ zTB := zw 299 (by decide +kernel)
theorem w300 : Cond.methodLink "NameRail" 108 ⟨"NameRail", "isPerson", "(I)Z"⟩ ∈ zTB := zw 300 (by decide +kernel)
theorem w301 : Cond.static ⟨"NameRail", "isPerson", "(I)Z"⟩ ∈ zTB := zw 301 (by decide +kernel)
theorem w302 : Cond.code ⟨"NameRail", "isPerson", "(I)Z"⟩ prog_1_method_56_code 1 (some FieldType.boolean) ∈ zTB := zw 302 (by decide +kernel)
theorem w306 : Cond.code ⟨"NameRail", "personOf", "(II)I"⟩ prog_1_method_6_code 3 (some FieldType.int) ∈ zTB := zw 306 (by decide +kernel)
theorem w307 : Cond.methodLink "NameRail" 117 ⟨"NameRail$House", "placeOf", "(I)I"⟩ ∈ zTB := zw 307 (by decide +kernel)
theorem w308 : Cond.instanceMethod ⟨"NameRail$House", "placeOf", "(I)I"⟩ ∈ zTB := zw 308 (by decide +kernel)
theorem w309 : Cond.selects "NameRail$House" ⟨"NameRail$House", "placeOf", "(I)I"⟩ ⟨"NameRail$House", "placeOf", "(I)I"⟩ ∈ zTB := zw 309 (by decide +kernel)
theorem w310 : Cond.code ⟨"NameRail$House", "placeOf", "(I)I"⟩ prog_2_method_14_code 3 (some FieldType.int) ∈ zTB := zw 310 (by decide +kernel)
theorem w311 : Cond.methodLink "NameRail$House" 78 ⟨"NameRail$House", "lineUp", "(I)V"⟩ ∈ zTB := zw 311 (by decide +kernel)
theorem w312 : Cond.instanceMethod ⟨"NameRail$House", "lineUp", "(I)V"⟩ ∈ zTB := zw 312 (by decide +kernel)
theorem w313 : Cond.selects "NameRail$House" ⟨"NameRail$House", "lineUp", "(I)V"⟩ ⟨"NameRail$House", "lineUp", "(I)V"⟩ ∈ zTB := zw 313 (by decide +kernel)
theorem w314 : Cond.code ⟨"NameRail$House", "lineUp", "(I)V"⟩ prog_2_method_13_code 6 (none : Option FieldType) ∈ zTB := zw 314 (by decide +kernel)
theorem w318 : Cond.code ⟨"NameRail", "order", "(I)I"⟩ prog_1_method_7_code 3 (some FieldType.int) ∈ zTB := zw 318 (by decide +kernel)
theorem w319 : Cond.methodLink "NameRail" 120 ⟨"NameRail", "isOrder", "(I)Z"⟩ ∈ zTB := zw 319 (by decide +kernel)
theorem w320 : Cond.static ⟨"NameRail", "isOrder", "(I)Z"⟩ ∈ zTB := zw 320 (by decide +kernel)
theorem w321 : Cond.code ⟨"NameRail", "isOrder", "(I)Z"⟩ prog_1_method_57_code 1 (some FieldType.boolean) ∈ zTB := zw 321 (by decide +kernel)
theorem w325 : Cond.code ⟨"NameRail", "at", "(II)I"⟩ prog_1_method_8_code 3 (some FieldType.int) ∈ zTB := zw 325 (by decide +kernel)
theorem w326 : Cond.methodLink "NameRail" 126 ⟨"NameRail$House", "lineUp", "(I)V"⟩ ∈ zTB := zw 326 (by decide +kernel)
theorem w330 : Cond.code ⟨"NameRail", "go", "(I)I"⟩ prog_1_method_9_code 2 (some FieldType.int) ∈ zTB := zw 330 (by decide +kernel)
theorem w331 : Cond.methodLink "NameRail" 136 ⟨"NameRail$House", "pass", "(I)V"⟩ ∈ zTB := zw 331 (by decide +kernel)
theorem w332 : Cond.instanceMethod ⟨"NameRail$House", "pass", "(I)V"⟩ ∈ zTB := zw 332 (by decide +kernel)
theorem w333 : Cond.selects "NameRail$House" ⟨"NameRail$House", "pass", "(I)V"⟩ ⟨"NameRail$House", "pass", "(I)V"⟩ ∈ zTB := zw 333 (by decide +kernel)
theorem w334 : Cond.code ⟨"NameRail$House", "pass", "(I)V"⟩ prog_2_method_22_code 3 (none : Option FieldType) ∈ zTB := zw 334 (by decide +kernel)
theorem w335 : Cond.methodLink "NameRail$House" 117 ⟨"NameRail$House", "passDay", "()V"⟩ ∈ zTB := zw 335 (by decide +kernel)
theorem w336 : Cond.instanceMethod ⟨"NameRail$House", "passDay", "()V"⟩ ∈ zTB := zw 336 (by decide +kernel)
theorem w337 : Cond.selects "NameRail$House" ⟨"NameRail$House", "passDay", "()V"⟩ ⟨"NameRail$House", "passDay", "()V"⟩ ∈ zTB := zw 337 (by decide +kernel)
theorem w338 : Cond.code ⟨"NameRail$House", "passDay", "()V"⟩ prog_2_method_19_code 2 (none : Option FieldType) ∈ zTB := zw 338 (by decide +kernel)
theorem w339 : Cond.methodLink "NameRail$House" 94 ⟨"NameRail$House", "draw", "(I)V"⟩ ∈ zTB := zw 339 (by decide +kernel)
theorem w340 : Cond.instanceMethod ⟨"NameRail$House", "draw", "(I)V"⟩ ∈ zTB := zw 340 (by decide +kernel)
theorem w341 : Cond.selects "NameRail$House" ⟨"NameRail$House", "draw", "(I)V"⟩ ⟨"NameRail$House", "draw", "(I)V"⟩ ∈ zTB := zw 341 (by decide +kernel)
theorem w342 : Cond.code ⟨"NameRail$House", "draw", "(I)V"⟩ prog_2_method_15_code 6 (none : Option FieldType) ∈ zTB := zw 342 (by decide +kernel)
theorem w343 : Cond.methodLink "NameRail$House" 82 ⟨"NameRail$House", "hanging", "()I"⟩ ∈ zTB := zw 343 (by decide +kernel)
theorem w344 : Cond.instanceMethod ⟨"NameRail$House", "hanging", "()I"⟩ ∈ zTB := zw 344 (by decide +kernel)
theorem w345 : Cond.selects "NameRail$House" ⟨"NameRail$House", "hanging", "()I"⟩ ⟨"NameRail$House", "hanging", "()I"⟩ ∈ zTB := zw 345 (by decide +kernel)
theorem w346 : Cond.code ⟨"NameRail$House", "hanging", "()I"⟩ prog_2_method_6_code 3 (some FieldType.int) ∈ zTB := zw 346 (by decide +kernel)
theorem w347 : Cond.methodLink "NameRail$House" 70 ⟨"NameRail$House", "hangs", "(I)Z"⟩ ∈ zTB := zw 347 (by decide +kernel)
theorem w349 : Cond.static ⟨"NameRail", "lowest", "(I)I"⟩ ∈ zTB := zw 349 (by decide +kernel)
theorem w350 : Cond.code ⟨"NameRail", "lowest", "(I)I"⟩ prog_1_method_53_code 1 (some FieldType.int) ∈ zTB := zw 350 (by decide +kernel)
theorem w351 : Cond.methodLink "NameRail" 190 ⟨"java/lang/Integer", "bitCount", "(I)I"⟩ ∈ zTB := zw 351 (by decide +kernel)
theorem w352 : Cond.static ⟨"java/lang/Integer", "bitCount", "(I)I"⟩ ∈ zTB := zw 352 (by decide +kernel)
theorem w353 : Cond.code ⟨"java/lang/Integer", "bitCount", "(I)I"⟩ prog_9_method_49_code 1 (some FieldType.int) ∈ zTB := zw 353 (by decide +kernel)
theorem w354 : Cond.constant "java/lang/Integer" 265 (1431655765 : Int32) ∈ zTB := zw 354 (by decide +kernel)
theorem w355 : Cond.constant "java/lang/Integer" 266 (858993459 : Int32) ∈ zTB := zw 355 (by decide +kernel)
theorem w356 : Cond.constant "java/lang/Integer" 267 (252645135 : Int32) ∈ zTB := zw 356 (by decide +kernel)
theorem w357 : Cond.methodLink "NameRail$House" 89 ⟨"NameRail$House", "draws", "(I)Z"⟩ ∈ zTB := zw 357 (by decide +kernel)
theorem w358 : Cond.instanceMethod ⟨"NameRail$House", "draws", "(I)Z"⟩ ∈ zTB := zw 358 (by decide +kernel)
theorem w359 : Cond.selects "NameRail$House" ⟨"NameRail$House", "draws", "(I)Z"⟩ ⟨"NameRail$House", "draws", "(I)Z"⟩ ∈ zTB := zw 359 (by decide +kernel)
theorem w360 : Cond.code ⟨"NameRail$House", "draws", "(I)Z"⟩ prog_2_method_16_code 2 (some FieldType.boolean) ∈ zTB := zw 360 (by decide +kernel)
theorem w361 : Cond.methodLink "NameRail$House" 97 ⟨"NameRail$House", "pay", "(II)V"⟩ ∈ zTB := zw 361 (by decide +kernel)
theorem w362 : Cond.instanceMethod ⟨"NameRail$House", "pay", "(II)V"⟩ ∈ zTB := zw 362 (by decide +kernel)
theorem w363 : Cond.selects "NameRail$House" ⟨"NameRail$House", "pay", "(II)V"⟩ ⟨"NameRail$House", "pay", "(II)V"⟩ ∈ zTB := zw 363 (by decide +kernel)
theorem w364 : Cond.code ⟨"NameRail$House", "pay", "(II)V"⟩ prog_2_method_20_code 5 (none : Option FieldType) ∈ zTB := zw 364 (by decide +kernel)
theorem w365 : Cond.methodLink "NameRail$House" 92 ⟨"NameRail$House", "due", "(I)I"⟩ ∈ zTB := zw 365 (by decide +kernel)
theorem w366 : Cond.methodLink "NameRail$House" 108 ⟨"java/lang/Math", "min", "(II)I"⟩ ∈ zTB := zw 366 (by decide +kernel)
theorem w367 : Cond.static ⟨"java/lang/Math", "min", "(II)I"⟩ ∈ zTB := zw 367 (by decide +kernel)
theorem w368 : Cond.code ⟨"java/lang/Math", "min", "(II)I"⟩ prog_10_method_69_code 2 (some FieldType.int) ∈ zTB := zw 368 (by decide +kernel)
theorem w369 : Cond.constant "NameRail$House" 104 (99999 : Int32) ∈ zTB := zw 369 (by decide +kernel)
theorem w370 : Cond.methodLink "NameRail$House" 101 ⟨"NameRail$House", "fade", "(I)V"⟩ ∈ zTB := zw 370 (by decide +kernel)
theorem w371 : Cond.instanceMethod ⟨"NameRail$House", "fade", "(I)V"⟩ ∈ zTB := zw 371 (by decide +kernel)
theorem w372 : Cond.selects "NameRail$House" ⟨"NameRail$House", "fade", "(I)V"⟩ ⟨"NameRail$House", "fade", "(I)V"⟩ ∈ zTB := zw 372 (by decide +kernel)
theorem w373 : Cond.code ⟨"NameRail$House", "fade", "(I)V"⟩ prog_2_method_21_code 2 (none : Option FieldType) ∈ zTB := zw 373 (by decide +kernel)
theorem w374 : Cond.methodLink "NameRail$House" 114 ⟨"NameRail$Kinds", "fades", "(I)I"⟩ ∈ zTB := zw 374 (by decide +kernel)
theorem w375 : Cond.methodLink "NameRail$House" 105 ⟨"NameRail$House", "pairsDrawn", "()I"⟩ ∈ zTB := zw 375 (by decide +kernel)
theorem w376 : Cond.instanceMethod ⟨"NameRail$House", "pairsDrawn", "()I"⟩ ∈ zTB := zw 376 (by decide +kernel)
theorem w377 : Cond.selects "NameRail$House" ⟨"NameRail$House", "pairsDrawn", "()I"⟩ ⟨"NameRail$House", "pairsDrawn", "()I"⟩ ∈ zTB := zw 377 (by decide +kernel)
theorem w378 : Cond.code ⟨"NameRail$House", "pairsDrawn", "()I"⟩ prog_2_method_18_code 3 (some FieldType.int) ∈ zTB := zw 378 (by decide +kernel)
theorem w379 : Cond.methodLink "NameRail$House" 74 ⟨"NameRail$House", "pairsIn", "(I)I"⟩ ∈ zTB := zw 379 (by decide +kernel)
theorem w380 : Cond.instanceMethod ⟨"NameRail$House", "pairsIn", "(I)I"⟩ ∈ zTB := zw 380 (by decide +kernel)
theorem w381 : Cond.selects "NameRail$House" ⟨"NameRail$House", "pairsIn", "(I)I"⟩ ⟨"NameRail$House", "pairsIn", "(I)I"⟩ ∈ zTB := zw 381 (by decide +kernel)
theorem w382 : Cond.code ⟨"NameRail$House", "pairsIn", "(I)I"⟩ prog_2_method_8_code 5 (some FieldType.int) ∈ zTB := zw 382 (by decide +kernel)
theorem w383 : Cond.methodLink "NameRail" 139 ⟨"NameRail$House", "purses", "()I"⟩ ∈ zTB := zw 383 (by decide +kernel)
theorem w384 : Cond.instanceMethod ⟨"NameRail$House", "purses", "()I"⟩ ∈ zTB := zw 384 (by decide +kernel)
theorem w385 : Cond.selects "NameRail$House" ⟨"NameRail$House", "purses", "()I"⟩ ⟨"NameRail$House", "purses", "()I"⟩ ∈ zTB := zw 385 (by decide +kernel)
theorem w386 : Cond.code ⟨"NameRail$House", "purses", "()I"⟩ prog_2_method_10_code 3 (some FieldType.int) ∈ zTB := zw 386 (by decide +kernel)
theorem w390 : Cond.code ⟨"NameRail", "now", "(I)I"⟩ prog_1_method_10_code 2 (some FieldType.int) ∈ zTB := zw 390 (by decide +kernel)
theorem w391 : Cond.methodLink "NameRail" 143 ⟨"NameRail$House", "hanging", "()I"⟩ ∈ zTB := zw 391 (by decide +kernel)
theorem w392 : Cond.methodLink "NameRail" 146 ⟨"NameRail$House", "debts", "()I"⟩ ∈ zTB := zw 392 (by decide +kernel)
theorem w393 : Cond.instanceMethod ⟨"NameRail$House", "debts", "()I"⟩ ∈ zTB := zw 393 (by decide +kernel)
theorem w394 : Cond.selects "NameRail$House" ⟨"NameRail$House", "debts", "()I"⟩ ⟨"NameRail$House", "debts", "()I"⟩ ∈ zTB := zw 394 (by decide +kernel)
theorem w395 : Cond.code ⟨"NameRail$House", "debts", "()I"⟩ prog_2_method_11_code 3 (some FieldType.int) ∈ zTB := zw 395 (by decide +kernel)
theorem w399 : Cond.code ⟨"NameRail", "mend", "(III)I"⟩ prog_1_method_11_code 4 (some FieldType.int) ∈ zTB := zw 399 (by decide +kernel)
theorem w400 : Cond.methodLink "NameRail" 152 ⟨"java/lang/Math", "max", "(II)I"⟩ ∈ zTB := zw 400 (by decide +kernel)
theorem w401 : Cond.static ⟨"java/lang/Math", "max", "(II)I"⟩ ∈ zTB := zw 401 (by decide +kernel)
theorem w402 : Cond.code ⟨"java/lang/Math", "max", "(II)I"⟩ prog_10_method_65_code 2 (some FieldType.int) ∈ zTB := zw 402 (by decide +kernel)
theorem w406 : Cond.code ⟨"NameRail", "wears", "(I)I"⟩ prog_1_method_12_code 2 (some FieldType.int) ∈ zTB := zw 406 (by decide +kernel)
theorem w407 : Cond.methodLink "NameRail" 158 ⟨"NameRail$House", "draw", "(I)V"⟩ ∈ zTB := zw 407 (by decide +kernel)
theorem w411 : Cond.code ⟨"NameRail", "ahead", "(II)I"⟩ prog_1_method_13_code 3 (some FieldType.int) ∈ zTB := zw 411 (by decide +kernel)
theorem w412 : Cond.methodLink "NameRail" 164 ⟨"NameRail$House", "become", "(LNameRail$House;)V"⟩ ∈ zTB := zw 412 (by decide +kernel)
theorem w413 : Cond.instanceMethod ⟨"NameRail$House", "become", "(LNameRail$House;)V"⟩ ∈ zTB := zw 413 (by decide +kernel)
theorem w414 : Cond.selects "NameRail$House" ⟨"NameRail$House", "become", "(LNameRail$House;)V"⟩ ⟨"NameRail$House", "become", "(LNameRail$House;)V"⟩ ∈ zTB := zw 414 (by decide +kernel)
theorem w415 : Cond.code ⟨"NameRail$House", "become", "(LNameRail$House;)V"⟩ prog_2_method_2_code 2 (none : Option FieldType) ∈ zTB := zw 415 (by decide +kernel)
theorem w416 : Cond.methodLink "NameRail$House" 58 ⟨"java/lang/System", "arraycopy", "(Ljava/lang/Object;ILjava/lang/Object;II)V"⟩ ∈ zTB := zw 416 (by decide +kernel)
theorem w417 : Cond.static ⟨"java/lang/System", "arraycopy", "(Ljava/lang/Object;ILjava/lang/Object;II)V"⟩ ∈ zTB := zw 417 (by decide +kernel)
theorem w418 : Cond.native ⟨"java/lang/System", "arraycopy", "(Ljava/lang/Object;ILjava/lang/Object;II)V"⟩ ∈ zTB := zw 418 (by decide +kernel)
theorem w422 : Cond.code ⟨"NameRail", "owes", "(II)I"⟩ prog_1_method_14_code 3 (some FieldType.int) ∈ zTB := zw 422 (by decide +kernel)
theorem w426 : Cond.code ⟨"NameRail", "lasts", "(I)I"⟩ prog_1_method_15_code 3 (some FieldType.int) ∈ zTB := zw 426 (by decide +kernel)
theorem w427 : Cond.methodLink "NameRail" 168 ⟨"NameRail$House", "daysHung", "(I)I"⟩ ∈ zTB := zw 427 (by decide +kernel)
theorem w428 : Cond.instanceMethod ⟨"NameRail$House", "daysHung", "(I)I"⟩ ∈ zTB := zw 428 (by decide +kernel)
theorem w429 : Cond.selects "NameRail$House" ⟨"NameRail$House", "daysHung", "(I)I"⟩ ⟨"NameRail$House", "daysHung", "(I)I"⟩ ∈ zTB := zw 429 (by decide +kernel)
theorem w430 : Cond.code ⟨"NameRail$House", "daysHung", "(I)I"⟩ prog_2_method_23_code 3 (some FieldType.int) ∈ zTB := zw 430 (by decide +kernel)
theorem w434 : Cond.code ⟨"NameRail", "broke", "(I)I"⟩ prog_1_method_16_code 3 (some FieldType.int) ∈ zTB := zw 434 (by decide +kernel)
theorem w435 : Cond.methodLink "NameRail" 171 ⟨"NameRail$House", "passDay", "()V"⟩ ∈ zTB := zw 435 (by decide +kernel)
theorem w439 : Cond.code ⟨"NameRail", "often", "(III)I"⟩ prog_1_method_17_code 6 (some FieldType.int) ∈ zTB := zw 439 (by decide +kernel)
theorem w443 : Cond.code ⟨"NameRail", "kindFor", "(I)I"⟩ prog_1_method_18_code 6 (some FieldType.int) ∈ zTB := zw 443 (by decide +kernel)
theorem w444 : Cond.methodLink "NameRail" 174 ⟨"java/lang/Math", "min", "(II)I"⟩ ∈ zTB := zw 444 (by decide +kernel)
theorem w448 : Cond.code ⟨"NameRail", "orderFor", "(II)I"⟩ prog_1_method_19_code 4 (some FieldType.int) ∈ zTB := zw 448 (by decide +kernel)
theorem w452 : Cond.code ⟨"NameRail", "orders", "(II)I"⟩ prog_1_method_20_code 5 (some FieldType.int) ∈ zTB := zw 452 (by decide +kernel)
theorem w456 : Cond.code ⟨"NameRail", "cheapest", "()I"⟩ prog_1_method_21_code 5 (some FieldType.int) ∈ zTB := zw 456 (by decide +kernel)
theorem w457 : Cond.methodLink "NameRail" 177 ⟨"NameRail$House", "duesDrawn", "()I"⟩ ∈ zTB := zw 457 (by decide +kernel)
theorem w458 : Cond.instanceMethod ⟨"NameRail$House", "duesDrawn", "()I"⟩ ∈ zTB := zw 458 (by decide +kernel)
theorem w459 : Cond.selects "NameRail$House" ⟨"NameRail$House", "duesDrawn", "()I"⟩ ⟨"NameRail$House", "duesDrawn", "()I"⟩ ∈ zTB := zw 459 (by decide +kernel)
theorem w460 : Cond.code ⟨"NameRail$House", "duesDrawn", "()I"⟩ prog_2_method_17_code 3 (some FieldType.int) ∈ zTB := zw 460 (by decide +kernel)
theorem w464 : Cond.code ⟨"NameRail", "calmest", "()I"⟩ prog_1_method_22_code 5 (some FieldType.int) ∈ zTB := zw 464 (by decide +kernel)
theorem w465 : Cond.methodLink "NameRail" 180 ⟨"NameRail$House", "pairsDrawn", "()I"⟩ ∈ zTB := zw 465 (by decide +kernel)
theorem w469 : Cond.code ⟨"NameRail", "best", "(II)I"⟩ prog_1_method_23_code 6 (some FieldType.int) ∈ zTB := zw 469 (by decide +kernel)
theorem w473 : Cond.code ⟨"NameRail", "wishFor", "(II)I"⟩ prog_1_method_24_code 6 (some FieldType.int) ∈ zTB := zw 473 (by decide +kernel)
theorem w477 : Cond.code ⟨"NameRail", "peace", "()I"⟩ prog_1_method_25_code 4 (some FieldType.int) ∈ zTB := zw 477 (by decide +kernel)
theorem w478 : Cond.methodLink "NameRail" 183 ⟨"NameRail", "isIn", "(II)Z"⟩ ∈ zTB := zw 478 (by decide +kernel)
theorem w479 : Cond.static ⟨"NameRail", "isIn", "(II)Z"⟩ ∈ zTB := zw 479 (by decide +kernel)
theorem w480 : Cond.code ⟨"NameRail", "isIn", "(II)Z"⟩ prog_1_method_52_code 2 (some FieldType.boolean) ∈ zTB := zw 480 (by decide +kernel)
theorem w481 : Cond.methodLink "NameRail" 187 ⟨"NameRail$House", "isPeaceful", "(I)Z"⟩ ∈ zTB := zw 481 (by decide +kernel)
theorem w482 : Cond.instanceMethod ⟨"NameRail$House", "isPeaceful", "(I)Z"⟩ ∈ zTB := zw 482 (by decide +kernel)
theorem w483 : Cond.selects "NameRail$House" ⟨"NameRail$House", "isPeaceful", "(I)Z"⟩ ⟨"NameRail$House", "isPeaceful", "(I)Z"⟩ ∈ zTB := zw 483 (by decide +kernel)
theorem w484 : Cond.code ⟨"NameRail$House", "isPeaceful", "(I)Z"⟩ prog_2_method_9_code 2 (some FieldType.boolean) ∈ zTB := zw 484 (by decide +kernel)
theorem w488 : Cond.code ⟨"NameRail", "peaceful", "(I)I"⟩ prog_1_method_26_code 5 (some FieldType.int) ∈ zTB := zw 488 (by decide +kernel)
theorem w492 : Cond.code ⟨"NameRail", "groups", "()I"⟩ prog_1_method_27_code 3 (some FieldType.int) ∈ zTB := zw 492 (by decide +kernel)
theorem w496 : Cond.code ⟨"NameRail", "mendFor", "(I)I"⟩ prog_1_method_28_code 2 (some FieldType.int) ∈ zTB := zw 496 (by decide +kernel)
theorem w497 : Cond.methodLink "NameRail" 195 ⟨"NameRail", "richestWith", "(II)I"⟩ ∈ zTB := zw 497 (by decide +kernel)
theorem w499 : Cond.instanceMethod ⟨"NameRail", "richestWith", "(II)I"⟩ ∈ zTB := zw 499 (by decide +kernel)
theorem w500 : Cond.code ⟨"NameRail", "richestWith", "(II)I"⟩ prog_1_method_60_code 6 (some FieldType.int) ∈ zTB := zw 500 (by decide +kernel)
theorem w504 : Cond.code ⟨"NameRail", "without", "(I)I"⟩ prog_1_method_29_code 2 (some FieldType.int) ∈ zTB := zw 504 (by decide +kernel)
theorem w508 : Cond.code ⟨"NameRail", "fits", "(II)I"⟩ prog_1_method_30_code 4 (some FieldType.int) ∈ zTB := zw 508 (by decide +kernel)
theorem w509 : Cond.methodLink "NameRail" 198 ⟨"NameRail", "faultOfFit", "(II)I"⟩ ∈ zTB := zw 509 (by decide +kernel)
theorem w511 : Cond.instanceMethod ⟨"NameRail", "faultOfFit", "(II)I"⟩ ∈ zTB := zw 511 (by decide +kernel)
theorem w512 : Cond.code ⟨"NameRail", "faultOfFit", "(II)I"⟩ prog_1_method_61_code 3 (some FieldType.int) ∈ zTB := zw 512 (by decide +kernel)
theorem w513 : Cond.methodLink "NameRail" 230 ⟨"NameRail", "isSheet", "(I)Z"⟩ ∈ zTB := zw 513 (by decide +kernel)
theorem w514 : Cond.static ⟨"NameRail", "isSheet", "(I)Z"⟩ ∈ zTB := zw 514 (by decide +kernel)
theorem w515 : Cond.code ⟨"NameRail", "isSheet", "(I)Z"⟩ prog_1_method_58_code 1 (some FieldType.boolean) ∈ zTB := zw 515 (by decide +kernel)
theorem w516 : Cond.methodLink "NameRail" 201 ⟨"NameRail", "fitting", "(LNameRail$Sheet;I)I"⟩ ∈ zTB := zw 516 (by decide +kernel)
theorem w518 : Cond.instanceMethod ⟨"NameRail", "fitting", "(LNameRail$Sheet;I)I"⟩ ∈ zTB := zw 518 (by decide +kernel)
theorem w519 : Cond.code ⟨"NameRail", "fitting", "(LNameRail$Sheet;I)I"⟩ prog_1_method_62_code 5 (some FieldType.int) ∈ zTB := zw 519 (by decide +kernel)
theorem w520 : Cond.methodLink "NameRail" 260 ⟨"NameRail$House", "pays", "(LNameRail$Sheet;I)Z"⟩ ∈ zTB := zw 520 (by decide +kernel)
theorem w521 : Cond.instanceMethod ⟨"NameRail$House", "pays", "(LNameRail$Sheet;I)Z"⟩ ∈ zTB := zw 521 (by decide +kernel)
theorem w522 : Cond.selects "NameRail$House" ⟨"NameRail$House", "pays", "(LNameRail$Sheet;I)Z"⟩ ⟨"NameRail$House", "pays", "(LNameRail$Sheet;I)Z"⟩ ∈ zTB := zw 522 (by decide +kernel)
theorem w523 : Cond.code ⟨"NameRail$House", "pays", "(LNameRail$Sheet;I)Z"⟩ prog_2_method_24_code 4 (some FieldType.boolean) ∈ zTB := zw 523 (by decide +kernel)
theorem w527 : Cond.code ⟨"NameRail", "wish", "(II)I"⟩ prog_1_method_31_code 5 (some FieldType.int) ∈ zTB := zw 527 (by decide +kernel)
theorem w528 : Cond.methodLink "NameRail" 205 ⟨"NameRail", "lowest", "(I)I"⟩ ∈ zTB := zw 528 (by decide +kernel)
theorem w532 : Cond.code ⟨"NameRail", "moths", "(I)I"⟩ prog_1_method_32_code 3 (some FieldType.int) ∈ zTB := zw 532 (by decide +kernel)
theorem w533 : Cond.methodLink "NameRail" 208 ⟨"NameRail$House", "moth", "()V"⟩ ∈ zTB := zw 533 (by decide +kernel)
theorem w534 : Cond.instanceMethod ⟨"NameRail$House", "moth", "()V"⟩ ∈ zTB := zw 534 (by decide +kernel)
theorem w535 : Cond.selects "NameRail$House" ⟨"NameRail$House", "moth", "()V"⟩ ⟨"NameRail$House", "moth", "()V"⟩ ∈ zTB := zw 535 (by decide +kernel)
theorem w536 : Cond.code ⟨"NameRail$House", "moth", "()V"⟩ prog_2_method_25_code 2 (none : Option FieldType) ∈ zTB := zw 536 (by decide +kernel)
theorem w537 : Cond.constant "NameRail$House" 128 (1103515245 : Int32) ∈ zTB := zw 537 (by decide +kernel)
theorem w541 : Cond.code ⟨"NameRail", "odds", "(II)J"⟩ prog_1_method_33_code 8 (some FieldType.long) ∈ zTB := zw 541 (by decide +kernel)
theorem w545 : Cond.code ⟨"NameRail", "seed", "(I)I"⟩ prog_1_method_34_code 3 (some FieldType.int) ∈ zTB := zw 545 (by decide +kernel)
theorem w549 : Cond.code ⟨"NameRail", "feed", "(II)I"⟩ prog_1_method_35_code 4 (some FieldType.int) ∈ zTB := zw 549 (by decide +kernel)
theorem w550 : Cond.methodLink "NameRail" 217 ⟨"NameRail$Tape", "append", "(I)V"⟩ ∈ zTB := zw 550 (by decide +kernel)
theorem w551 : Cond.instanceMethod ⟨"NameRail$Tape", "append", "(I)V"⟩ ∈ zTB := zw 551 (by decide +kernel)
theorem w552 : Cond.selects "NameRail$Tape" ⟨"NameRail$Tape", "append", "(I)V"⟩ ⟨"NameRail$Tape", "append", "(I)V"⟩ ∈ zTB := zw 552 (by decide +kernel)
theorem w553 : Cond.code ⟨"NameRail$Tape", "append", "(I)V"⟩ prog_6_method_2_code 2 (none : Option FieldType) ∈ zTB := zw 553 (by decide +kernel)
theorem w557 : Cond.code ⟨"NameRail", "wipe", "()I"⟩ prog_1_method_36_code 2 (some FieldType.int) ∈ zTB := zw 557 (by decide +kernel)
theorem w561 : Cond.code ⟨"NameRail", "text", "()I"⟩ prog_1_method_37_code 2 (some FieldType.int) ∈ zTB := zw 561 (by decide +kernel)
theorem w562 : Cond.methodLink "NameRail" 220 ⟨"NameRail$Reader", "read", "(LNameRail$Tape;LNameRail$House;)I"⟩ ∈ zTB := zw 562 (by decide +kernel)
theorem w563 : Cond.instanceMethod ⟨"NameRail$Reader", "read", "(LNameRail$Tape;LNameRail$House;)I"⟩ ∈ zTB := zw 563 (by decide +kernel)
theorem w564 : Cond.selects "NameRail$Reader" ⟨"NameRail$Reader", "read", "(LNameRail$Tape;LNameRail$House;)I"⟩ ⟨"NameRail$Reader", "read", "(LNameRail$Tape;LNameRail$House;)I"⟩ ∈ zTB := zw 564 (by decide +kernel)
theorem w565 : Cond.code ⟨"NameRail$Reader", "read", "(LNameRail$Tape;LNameRail$House;)I"⟩ prog_4_method_2_code 4 (some FieldType.int) ∈ zTB := zw 565 (by decide +kernel)
theorem w566 : Cond.methodLink "NameRail$Reader" 19 ⟨"NameRail$Reader", "step", "()V"⟩ ∈ zTB := zw 566 (by decide +kernel)
theorem w568 : Cond.instanceMethod ⟨"NameRail$Reader", "step", "()V"⟩ ∈ zTB := zw 568 (by decide +kernel)
theorem w569 : Cond.code ⟨"NameRail$Reader", "step", "()V"⟩ prog_4_method_3_code 2 (none : Option FieldType) ∈ zTB := zw 569 (by decide +kernel)
theorem w570 : Cond.methodLink "NameRail$Reader" 32 ⟨"NameRail$Tape", "byteAt", "(I)I"⟩ ∈ zTB := zw 570 (by decide +kernel)
theorem w571 : Cond.instanceMethod ⟨"NameRail$Tape", "byteAt", "(I)I"⟩ ∈ zTB := zw 571 (by decide +kernel)
theorem w572 : Cond.selects "NameRail$Tape" ⟨"NameRail$Tape", "byteAt", "(I)I"⟩ ⟨"NameRail$Tape", "byteAt", "(I)I"⟩ ∈ zTB := zw 572 (by decide +kernel)
theorem w573 : Cond.code ⟨"NameRail$Tape", "byteAt", "(I)I"⟩ prog_6_method_3_code 2 (some FieldType.int) ∈ zTB := zw 573 (by decide +kernel)
theorem w574 : Cond.methodLink "NameRail$Reader" 38 ⟨"NameRail$Reader", "isLetter", "(I)Z"⟩ ∈ zTB := zw 574 (by decide +kernel)
theorem w575 : Cond.static ⟨"NameRail$Reader", "isLetter", "(I)Z"⟩ ∈ zTB := zw 575 (by decide +kernel)
theorem w576 : Cond.code ⟨"NameRail$Reader", "isLetter", "(I)Z"⟩ prog_4_method_6_code 1 (some FieldType.boolean) ∈ zTB := zw 576 (by decide +kernel)
theorem w577 : Cond.methodLink "NameRail$Reader" 42 ⟨"NameRail$Reader", "stepWord", "()V"⟩ ∈ zTB := zw 577 (by decide +kernel)
theorem w579 : Cond.instanceMethod ⟨"NameRail$Reader", "stepWord", "()V"⟩ ∈ zTB := zw 579 (by decide +kernel)
theorem w580 : Cond.code ⟨"NameRail$Reader", "stepWord", "()V"⟩ prog_4_method_4_code 1 (none : Option FieldType) ∈ zTB := zw 580 (by decide +kernel)
theorem w581 : Cond.methodLink "NameRail$Reader" 45 ⟨"NameRail$Reader", "isDigit", "(I)Z"⟩ ∈ zTB := zw 581 (by decide +kernel)
theorem w582 : Cond.static ⟨"NameRail$Reader", "isDigit", "(I)Z"⟩ ∈ zTB := zw 582 (by decide +kernel)
theorem w583 : Cond.code ⟨"NameRail$Reader", "isDigit", "(I)Z"⟩ prog_4_method_7_code 1 (some FieldType.boolean) ∈ zTB := zw 583 (by decide +kernel)
theorem w584 : Cond.methodLink "NameRail$Reader" 48 ⟨"NameRail$Reader", "stepNumber", "()V"⟩ ∈ zTB := zw 584 (by decide +kernel)
theorem w586 : Cond.instanceMethod ⟨"NameRail$Reader", "stepNumber", "()V"⟩ ∈ zTB := zw 586 (by decide +kernel)
theorem w587 : Cond.code ⟨"NameRail$Reader", "stepNumber", "()V"⟩ prog_4_method_5_code 1 (none : Option FieldType) ∈ zTB := zw 587 (by decide +kernel)
theorem w588 : Cond.methodLink "NameRail$Reader" 54 ⟨"java/lang/Math", "min", "(II)I"⟩ ∈ zTB := zw 588 (by decide +kernel)
theorem w589 : Cond.methodLink "NameRail$Reader" 22 ⟨"NameRail$Reader", "item", "(LNameRail$House;)Z"⟩ ∈ zTB := zw 589 (by decide +kernel)
theorem w591 : Cond.instanceMethod ⟨"NameRail$Reader", "item", "(LNameRail$House;)Z"⟩ ∈ zTB := zw 591 (by decide +kernel)
theorem w592 : Cond.code ⟨"NameRail$Reader", "item", "(LNameRail$House;)Z"⟩ prog_4_method_11_code 3 (some FieldType.boolean) ∈ zTB := zw 592 (by decide +kernel)
theorem w593 : Cond.methodLink "NameRail$Reader" 90 ⟨"NameRail$Reader", "kindTold", "()I"⟩ ∈ zTB := zw 593 (by decide +kernel)
theorem w595 : Cond.instanceMethod ⟨"NameRail$Reader", "kindTold", "()I"⟩ ∈ zTB := zw 595 (by decide +kernel)
theorem w596 : Cond.code ⟨"NameRail$Reader", "kindTold", "()I"⟩ prog_4_method_10_code 1 (some FieldType.int) ∈ zTB := zw 596 (by decide +kernel)
theorem w598 : Cond.methodLink "NameRail$Reader" 72 ⟨"NameRail$Reader", "isWord", "(Ljava/lang/String;)Z"⟩ ∈ zTB := zw 598 (by decide +kernel)
theorem w600 : Cond.instanceMethod ⟨"NameRail$Reader", "isWord", "(Ljava/lang/String;)Z"⟩ ∈ zTB := zw 600 (by decide +kernel)
theorem w601 : Cond.code ⟨"NameRail$Reader", "isWord", "(Ljava/lang/String;)Z"⟩ prog_4_method_8_code 3 (some FieldType.boolean) ∈ zTB := zw 601 (by decide +kernel)
theorem w602 : Cond.methodLink "NameRail$Reader" 60 ⟨"java/lang/String", "length", "()I"⟩ ∈ zTB := zw 602 (by decide +kernel)
theorem w603 : Cond.instanceMethod ⟨"java/lang/String", "length", "()I"⟩ ∈ zTB := zw 603 (by decide +kernel)
theorem w604 : Cond.selects "java/lang/String" ⟨"java/lang/String", "length", "()I"⟩ ⟨"java/lang/String", "length", "()I"⟩ ∈ zTB := zw 604 (by decide +kernel)
theorem w605 : Cond.code ⟨"java/lang/String", "length", "()I"⟩ prog_11_method_54_code 1 (some FieldType.int) ∈ zTB := zw 605 (by decide +kernel)
theorem w606 : Cond.methodLink "java/lang/String" 335 ⟨"java/lang/String", "coder", "()B"⟩ ∈ zTB := zw 606 (by decide +kernel)
theorem w607 : Cond.instanceMethod ⟨"java/lang/String", "coder", "()B"⟩ ∈ zTB := zw 607 (by decide +kernel)
theorem w608 : Cond.selects "java/lang/String" ⟨"java/lang/String", "coder", "()B"⟩ ⟨"java/lang/String", "coder", "()B"⟩ ∈ zTB := zw 608 (by decide +kernel)
theorem w609 : Cond.code ⟨"java/lang/String", "coder", "()B"⟩ prog_11_method_152_code 1 (some FieldType.byte) ∈ zTB := zw 609 (by decide +kernel)
theorem w610 : Cond.fieldLink "java/lang/String" 38 "java/lang/String" "COMPACT_STRINGS" "Z" ∈ zTB := zw 610 (by decide +kernel)
theorem w612 : Cond.methodLink "NameRail$Reader" 66 ⟨"java/lang/String", "charAt", "(I)C"⟩ ∈ zTB := zw 612 (by decide +kernel)
theorem w613 : Cond.instanceMethod ⟨"java/lang/String", "charAt", "(I)C"⟩ ∈ zTB := zw 613 (by decide +kernel)
theorem w614 : Cond.selects "java/lang/String" ⟨"java/lang/String", "charAt", "(I)C"⟩ ⟨"java/lang/String", "charAt", "(I)C"⟩ ∈ zTB := zw 614 (by decide +kernel)
theorem w615 : Cond.code ⟨"java/lang/String", "charAt", "(I)C"⟩ prog_11_method_56_code 2 (some FieldType.char) ∈ zTB := zw 615 (by decide +kernel)
theorem w616 : Cond.methodLink "java/lang/String" 492 ⟨"java/lang/String", "isLatin1", "()Z"⟩ ∈ zTB := zw 616 (by decide +kernel)
theorem w617 : Cond.instanceMethod ⟨"java/lang/String", "isLatin1", "()Z"⟩ ∈ zTB := zw 617 (by decide +kernel)
theorem w618 : Cond.selects "java/lang/String" ⟨"java/lang/String", "isLatin1", "()Z"⟩ ⟨"java/lang/String", "isLatin1", "()Z"⟩ ∈ zTB := zw 618 (by decide +kernel)
theorem w619 : Cond.code ⟨"java/lang/String", "isLatin1", "()Z"⟩ prog_11_method_154_code 1 (some FieldType.boolean) ∈ zTB := zw 619 (by decide +kernel)
theorem w620 : Cond.methodLink "java/lang/String" 495 ⟨"java/lang/StringLatin1", "charAt", "([BI)C"⟩ ∈ zTB := zw 620 (by decide +kernel)
theorem w621 : Cond.static ⟨"java/lang/StringLatin1", "charAt", "([BI)C"⟩ ∈ zTB := zw 621 (by decide +kernel)
theorem w622 : Cond.code ⟨"java/lang/StringLatin1", "charAt", "([BI)C"⟩ prog_12_method_2_code 2 (some FieldType.char) ∈ zTB := zw 622 (by decide +kernel)
theorem w623 : Cond.methodLink "java/lang/StringLatin1" 9 ⟨"java/lang/String", "checkIndex", "(II)V"⟩ ∈ zTB := zw 623 (by decide +kernel)
theorem w624 : Cond.static ⟨"java/lang/String", "checkIndex", "(II)V"⟩ ∈ zTB := zw 624 (by decide +kernel)
theorem w625 : Cond.code ⟨"java/lang/String", "checkIndex", "(II)V"⟩ prog_11_method_155_code 2 (none : Option FieldType) ∈ zTB := zw 625 (by decide +kernel)
theorem w626 : Cond.fieldLink "java/lang/String" 1053 "jdk/internal/util/Preconditions" "SIOOBE_FORMATTER" "Ljava/util/function/BiFunction;" ∈ zTB := zw 626 (by decide +kernel)
theorem w628 : Cond.methodLink "java/lang/String" 1059 ⟨"jdk/internal/util/Preconditions", "checkIndex", "(IILjava/util/function/BiFunction;)I"⟩ ∈ zTB := zw 628 (by decide +kernel)
theorem w629 : Cond.static ⟨"jdk/internal/util/Preconditions", "checkIndex", "(IILjava/util/function/BiFunction;)I"⟩ ∈ zTB := zw 629 (by decide +kernel)
theorem w630 : Cond.code ⟨"jdk/internal/util/Preconditions", "checkIndex", "(IILjava/util/function/BiFunction;)I"⟩ prog_15_method_11_code 3 (some FieldType.int) ∈ zTB := zw 630 (by decide +kernel)
theorem w656 : Cond.methodLink "NameRail$Reader" 98 ⟨"NameRail$Reader", "nameItem", "(LNameRail$House;I)Z"⟩ ∈ zTB := zw 656 (by decide +kernel)
theorem w658 : Cond.instanceMethod ⟨"NameRail$Reader", "nameItem", "(LNameRail$House;I)Z"⟩ ∈ zTB := zw 658 (by decide +kernel)
theorem w659 : Cond.code ⟨"NameRail$Reader", "nameItem", "(LNameRail$House;I)Z"⟩ prog_4_method_12_code 6 (some FieldType.boolean) ∈ zTB := zw 659 (by decide +kernel)
theorem w660 : Cond.methodLink "NameRail$Reader" 112 ⟨"NameRail$Reader", "isNumberTo", "(I)Z"⟩ ∈ zTB := zw 660 (by decide +kernel)
theorem w662 : Cond.instanceMethod ⟨"NameRail$Reader", "isNumberTo", "(I)Z"⟩ ∈ zTB := zw 662 (by decide +kernel)
theorem w663 : Cond.code ⟨"NameRail$Reader", "isNumberTo", "(I)Z"⟩ prog_4_method_9_code 2 (some FieldType.boolean) ∈ zTB := zw 663 (by decide +kernel)
theorem w666 : Cond.methodLink "NameRail$Reader" 119 ⟨"NameRail$House", "hangUp", "(IIII)I"⟩ ∈ zTB := zw 666 (by decide +kernel)
theorem w668 : Cond.methodLink "NameRail$Reader" 104 ⟨"NameRail$Reader", "personItem", "(LNameRail$House;)Z"⟩ ∈ zTB := zw 668 (by decide +kernel)
theorem w670 : Cond.instanceMethod ⟨"NameRail$Reader", "personItem", "(LNameRail$House;)Z"⟩ ∈ zTB := zw 670 (by decide +kernel)
theorem w671 : Cond.code ⟨"NameRail$Reader", "personItem", "(LNameRail$House;)Z"⟩ prog_4_method_13_code 3 (some FieldType.boolean) ∈ zTB := zw 671 (by decide +kernel)
theorem w675 : Cond.methodLink "NameRail$Reader" 109 ⟨"NameRail$Reader", "orderItem", "(LNameRail$House;)Z"⟩ ∈ zTB := zw 675 (by decide +kernel)
theorem w677 : Cond.instanceMethod ⟨"NameRail$Reader", "orderItem", "(LNameRail$House;)Z"⟩ ∈ zTB := zw 677 (by decide +kernel)
theorem w678 : Cond.code ⟨"NameRail$Reader", "orderItem", "(LNameRail$House;)Z"⟩ prog_4_method_14_code 2 (some FieldType.boolean) ∈ zTB := zw 678 (by decide +kernel)
theorem w683 : Cond.code ⟨"NameRail", "hold", "(II)I"⟩ prog_1_method_38_code 3 (some FieldType.int) ∈ zTB := zw 683 (by decide +kernel)
theorem w687 : Cond.code ⟨"NameRail", "as", "(II)I"⟩ prog_1_method_39_code 4 (some FieldType.int) ∈ zTB := zw 687 (by decide +kernel)
theorem w688 : Cond.methodLink "NameRail" 227 ⟨"NameRail$Kinds", "isUnder", "(II)Z"⟩ ∈ zTB := zw 688 (by decide +kernel)
theorem w689 : Cond.static ⟨"NameRail$Kinds", "isUnder", "(II)Z"⟩ ∈ zTB := zw 689 (by decide +kernel)
theorem w690 : Cond.code ⟨"NameRail$Kinds", "isUnder", "(II)Z"⟩ prog_3_method_3_code 4 (some FieldType.boolean) ∈ zTB := zw 690 (by decide +kernel)
theorem w691 : Cond.methodLink "NameRail$Kinds" 11 ⟨"NameRail$Kinds", "above", "(I)I"⟩ ∈ zTB := zw 691 (by decide +kernel)
theorem w692 : Cond.static ⟨"NameRail$Kinds", "above", "(I)I"⟩ ∈ zTB := zw 692 (by decide +kernel)
theorem w693 : Cond.code ⟨"NameRail$Kinds", "above", "(I)I"⟩ prog_3_method_2_code 1 (some FieldType.int) ∈ zTB := zw 693 (by decide +kernel)
theorem w697 : Cond.code ⟨"NameRail", "sheet", "(III)I"⟩ prog_1_method_40_code 4 (some FieldType.int) ∈ zTB := zw 697 (by decide +kernel)
theorem w698 : Cond.methodLink "NameRail" 233 ⟨"NameRail$Sheet", "layOut", "(II)V"⟩ ∈ zTB := zw 698 (by decide +kernel)
theorem w699 : Cond.instanceMethod ⟨"NameRail$Sheet", "layOut", "(II)V"⟩ ∈ zTB := zw 699 (by decide +kernel)
theorem w700 : Cond.selects "NameRail$Sheet" ⟨"NameRail$Sheet", "layOut", "(II)V"⟩ ⟨"NameRail$Sheet", "layOut", "(II)V"⟩ ∈ zTB := zw 700 (by decide +kernel)
theorem w701 : Cond.code ⟨"NameRail$Sheet", "layOut", "(II)V"⟩ prog_5_method_2_code 4 (none : Option FieldType) ∈ zTB := zw 701 (by decide +kernel)
theorem w705 : Cond.code ⟨"NameRail", "write", "(III)I"⟩ prog_1_method_41_code 4 (some FieldType.int) ∈ zTB := zw 705 (by decide +kernel)
theorem w706 : Cond.methodLink "NameRail" 241 ⟨"NameRail$Sheet", "put", "(II)V"⟩ ∈ zTB := zw 706 (by decide +kernel)
theorem w707 : Cond.instanceMethod ⟨"NameRail$Sheet", "put", "(II)V"⟩ ∈ zTB := zw 707 (by decide +kernel)
theorem w708 : Cond.selects "NameRail$Sheet" ⟨"NameRail$Sheet", "put", "(II)V"⟩ ⟨"NameRail$Sheet", "put", "(II)V"⟩ ∈ zTB := zw 708 (by decide +kernel)
theorem w709 : Cond.code ⟨"NameRail$Sheet", "put", "(II)V"⟩ prog_5_method_3_code 3 (none : Option FieldType) ∈ zTB := zw 709 (by decide +kernel)
theorem w713 : Cond.code ⟨"NameRail", "copy", "(IIIII)I"⟩ prog_1_method_42_code 6 (some FieldType.int) ∈ zTB := zw 713 (by decide +kernel)
theorem w714 : Cond.methodLink "NameRail" 244 ⟨"NameRail$Sheet", "has", "(II)Z"⟩ ∈ zTB := zw 714 (by decide +kernel)
theorem w715 : Cond.instanceMethod ⟨"NameRail$Sheet", "has", "(II)Z"⟩ ∈ zTB := zw 715 (by decide +kernel)
theorem w716 : Cond.selects "NameRail$Sheet" ⟨"NameRail$Sheet", "has", "(II)Z"⟩ ⟨"NameRail$Sheet", "has", "(II)Z"⟩ ∈ zTB := zw 716 (by decide +kernel)
theorem w717 : Cond.code ⟨"NameRail$Sheet", "has", "(II)Z"⟩ prog_5_method_4_code 3 (some FieldType.boolean) ∈ zTB := zw 717 (by decide +kernel)
theorem w718 : Cond.methodLink "NameRail" 250 ⟨"java/lang/System", "arraycopy", "(Ljava/lang/Object;ILjava/lang/Object;II)V"⟩ ∈ zTB := zw 718 (by decide +kernel)
theorem w722 : Cond.code ⟨"NameRail", "load", "(I)I"⟩ prog_1_method_43_code 4 (some FieldType.int) ∈ zTB := zw 722 (by decide +kernel)
theorem w726 : Cond.code ⟨"NameRail", "judge", "(I)I"⟩ prog_1_method_44_code 4 (some FieldType.int) ∈ zTB := zw 726 (by decide +kernel)
theorem w730 : Cond.code ⟨"NameRail", "image", "()I"⟩ prog_1_method_45_code 1 (some FieldType.int) ∈ zTB := zw 730 (by decide +kernel)
theorem w734 : Cond.code ⟨"NameRail", "undo", "()I"⟩ prog_1_method_46_code 1 (some FieldType.int) ∈ zTB := zw 734 (by decide +kernel)
theorem w738 : Cond.code ⟨"NameRail", "tear", "()I"⟩ prog_1_method_47_code 2 (some FieldType.int) ∈ zTB := zw 738 (by decide +kernel)
theorem w742 : Cond.code ⟨"NameRail", "count", "(I)I"⟩ prog_1_method_48_code 2 (some FieldType.int) ∈ zTB := zw 742 (by decide +kernel)
theorem w743 : Cond.methodLink "NameRail" 256 ⟨"NameRail$House", "spotsHeld", "()I"⟩ ∈ zTB := zw 743 (by decide +kernel)
theorem w744 : Cond.instanceMethod ⟨"NameRail$House", "spotsHeld", "()I"⟩ ∈ zTB := zw 744 (by decide +kernel)
theorem w745 : Cond.selects "NameRail$House" ⟨"NameRail$House", "spotsHeld", "()I"⟩ ⟨"NameRail$House", "spotsHeld", "()I"⟩ ∈ zTB := zw 745 (by decide +kernel)
theorem w746 : Cond.code ⟨"NameRail$House", "spotsHeld", "()I"⟩ prog_2_method_12_code 3 (some FieldType.int) ∈ zTB := zw 746 (by decide +kernel)
theorem w750 : Cond.code ⟨"NameRail", "status", "(I)I"⟩ prog_1_method_49_code 4 (some FieldType.int) ∈ zTB := zw 750 (by decide +kernel)
theorem w766 : Cond.fieldLink "NameRailModel" 9 "NameRailModel" "now" "[I" ∈ zTB := zw 766 (by decide +kernel)
theorem w767 : Cond.fieldLink "NameRailModel" 13 "NameRailModel" "kept" "[I" ∈ zTB := zw 767 (by decide +kernel)
theorem w768 : Cond.fieldLink "NameRailModel" 16 "NameRailModel" "aside" "[I" ∈ zTB := zw 768 (by decide +kernel)
theorem w769 : Cond.fieldLink "NameRailModel" 329 "NameRailModel" "isKept" "Z" ∈ zTB := zw 769 (by decide +kernel)
theorem w770 : Cond.fieldLink "NameRailModel" 19 "NameRailModel" "found" "[I" ∈ zTB := zw 770 (by decide +kernel)
theorem w771 : Cond.fieldLink "NameRailModel" 22 "NameRailModel" "drawn" "[I" ∈ zTB := zw 771 (by decide +kernel)
theorem w772 : Cond.fieldLink "NameRailModel" 25 "NameRailModel" "groupsOf" "[I" ∈ zTB := zw 772 (by decide +kernel)
theorem w773 : Cond.fieldLink "NameRailModel" 28 "NameRailModel" "tape" "[I" ∈ zTB := zw 773 (by decide +kernel)
theorem w774 : Cond.fieldLink "NameRailModel" 236 "NameRailModel" "taped" "I" ∈ zTB := zw 774 (by decide +kernel)
theorem w775 : Cond.fieldLink "NameRailModel" 243 "NameRailModel" "begins" "I" ∈ zTB := zw 775 (by decide +kernel)
theorem w776 : Cond.fieldLink "NameRailModel" 240 "NameRailModel" "ends" "I" ∈ zTB := zw 776 (by decide +kernel)
theorem w777 : Cond.fieldLink "NameRailModel" 252 "NameRailModel" "sort" "I" ∈ zTB := zw 777 (by decide +kernel)
theorem w778 : Cond.fieldLink "NameRailModel" 249 "NameRailModel" "value" "I" ∈ zTB := zw 778 (by decide +kernel)
theorem w779 : Cond.fieldLink "NameRailModel" 262 "NameRailModel" "isWrong" "Z" ∈ zTB := zw 779 (by decide +kernel)
theorem w780 : Cond.fieldLink "NameRailModel" 47 "NameRailModel" "kindNames" "[Ljava/lang/String;" ∈ zTB := zw 780 (by decide +kernel)
theorem w781 : Cond.fieldLink "NameRailModel" 51 "NameRailModel" "items" "[I" ∈ zTB := zw 781 (by decide +kernel)
theorem w782 : Cond.fieldLink "NameRailModel" 273 "NameRailModel" "itemMany" "I" ∈ zTB := zw 782 (by decide +kernel)
theorem w783 : Cond.fieldLink "NameRailModel" 286 "NameRailModel" "nameThen" "I" ∈ zTB := zw 783 (by decide +kernel)
theorem w784 : Cond.fieldLink "NameRailModel" 54 "NameRailModel" "widths" "[I" ∈ zTB := zw 784 (by decide +kernel)
theorem w785 : Cond.fieldLink "NameRailModel" 57 "NameRailModel" "sizes" "[I" ∈ zTB := zw 785 (by decide +kernel)
theorem w786 : Cond.fieldLink "NameRailModel" 60 "NameRailModel" "numbers" "[I" ∈ zTB := zw 786 (by decide +kernel)
theorem w787 : Cond.fieldLink "NameRailModel" 63 "NameRailModel" "moved" "[I" ∈ zTB := zw 787 (by decide +kernel)
theorem w836 : Cond.code ⟨"NameRailModel", "name", "(II)I"⟩ prog_8_method_16_code 3 (some FieldType.int) ∈ zTB := zw 836 (by decide +kernel)
theorem w837 : Cond.methodLink "NameRailModel" 84 ⟨"NameRailModel", "isKind", "(I)Z"⟩ ∈ zTB := zw 837 (by decide +kernel)
theorem w838 : Cond.static ⟨"NameRailModel", "isKind", "(I)Z"⟩ ∈ zTB := zw 838 (by decide +kernel)
theorem w839 : Cond.code ⟨"NameRailModel", "isKind", "(I)Z"⟩ prog_8_method_12_code 1 (some FieldType.boolean) ∈ zTB := zw 839 (by decide +kernel)
theorem w840 : Cond.methodLink "NameRailModel" 76 ⟨"NameRailModel", "within", "(III)Z"⟩ ∈ zTB := zw 840 (by decide +kernel)
theorem w841 : Cond.static ⟨"NameRailModel", "within", "(III)Z"⟩ ∈ zTB := zw 841 (by decide +kernel)
theorem w842 : Cond.code ⟨"NameRailModel", "within", "(III)Z"⟩ prog_8_method_3_code 3 (some FieldType.boolean) ∈ zTB := zw 842 (by decide +kernel)
theorem w843 : Cond.constant "NameRailModel" 66 (-1000001 : Int32) ∈ zTB := zw 843 (by decide +kernel)
theorem w844 : Cond.methodLink "NameRailModel" 72 ⟨"NameRailModel", "finding", "(I)I"⟩ ∈ zTB := zw 844 (by decide +kernel)
theorem w846 : Cond.instanceMethod ⟨"NameRailModel", "finding", "(I)I"⟩ ∈ zTB := zw 846 (by decide +kernel)
theorem w847 : Cond.code ⟨"NameRailModel", "finding", "(I)I"⟩ prog_8_method_2_code 2 (some FieldType.int) ∈ zTB := zw 847 (by decide +kernel)
theorem w848 : Cond.constant "NameRailModel" 88 (-1000002 : Int32) ∈ zTB := zw 848 (by decide +kernel)
theorem w849 : Cond.methodLink "NameRailModel" 89 ⟨"NameRailModel", "comes", "(IIII)I"⟩ ∈ zTB := zw 849 (by decide +kernel)
theorem w851 : Cond.instanceMethod ⟨"NameRailModel", "comes", "(IIII)I"⟩ ∈ zTB := zw 851 (by decide +kernel)
theorem w852 : Cond.code ⟨"NameRailModel", "comes", "(IIII)I"⟩ prog_8_method_15_code 6 (some FieldType.int) ∈ zTB := zw 852 (by decide +kernel)
theorem w853 : Cond.methodLink "NameRailModel" 80 ⟨"NameRailModel", "place", "(II)I"⟩ ∈ zTB := zw 853 (by decide +kernel)
theorem w854 : Cond.static ⟨"NameRailModel", "place", "(II)I"⟩ ∈ zTB := zw 854 (by decide +kernel)
theorem w855 : Cond.code ⟨"NameRailModel", "place", "(II)I"⟩ prog_8_method_13_code 2 (some FieldType.int) ∈ zTB := zw 855 (by decide +kernel)
theorem w859 : Cond.code ⟨"NameRailModel", "of", "(II)I"⟩ prog_8_method_22_code 3 (some FieldType.int) ∈ zTB := zw 859 (by decide +kernel)
theorem w860 : Cond.methodLink "NameRailModel" 100 ⟨"NameRailModel", "isName", "(I)Z"⟩ ∈ zTB := zw 860 (by decide +kernel)
theorem w862 : Cond.instanceMethod ⟨"NameRailModel", "isName", "(I)Z"⟩ ∈ zTB := zw 862 (by decide +kernel)
theorem w863 : Cond.code ⟨"NameRailModel", "isName", "(I)Z"⟩ prog_8_method_10_code 2 (some FieldType.boolean) ∈ zTB := zw 863 (by decide +kernel)
theorem w864 : Cond.methodLink "NameRailModel" 103 ⟨"NameRailModel", "dueOf", "(I)I"⟩ ∈ zTB := zw 864 (by decide +kernel)
theorem w866 : Cond.instanceMethod ⟨"NameRailModel", "dueOf", "(I)I"⟩ ∈ zTB := zw 866 (by decide +kernel)
theorem w867 : Cond.code ⟨"NameRailModel", "dueOf", "(I)I"⟩ prog_8_method_17_code 4 (some FieldType.int) ∈ zTB := zw 867 (by decide +kernel)
theorem w868 : Cond.methodLink "NameRailModel" 93 ⟨"NameRailModel", "nameIs", "(II)I"⟩ ∈ zTB := zw 868 (by decide +kernel)
theorem w870 : Cond.instanceMethod ⟨"NameRailModel", "nameIs", "(II)I"⟩ ∈ zTB := zw 870 (by decide +kernel)
theorem w871 : Cond.code ⟨"NameRailModel", "nameIs", "(II)I"⟩ prog_8_method_14_code 3 (some FieldType.int) ∈ zTB := zw 871 (by decide +kernel)
theorem w872 : Cond.methodLink "NameRailModel" 106 ⟨"NameRailModel", "fadesBy", "(I)I"⟩ ∈ zTB := zw 872 (by decide +kernel)
theorem w874 : Cond.instanceMethod ⟨"NameRailModel", "fadesBy", "(I)I"⟩ ∈ zTB := zw 874 (by decide +kernel)
theorem w875 : Cond.code ⟨"NameRailModel", "fadesBy", "(I)I"⟩ prog_8_method_18_code 2 (some FieldType.int) ∈ zTB := zw 875 (by decide +kernel)
theorem w876 : Cond.methodLink "NameRailModel" 109 ⟨"NameRailModel", "hangs", "(I)Z"⟩ ∈ zTB := zw 876 (by decide +kernel)
theorem w878 : Cond.instanceMethod ⟨"NameRailModel", "hangs", "(I)Z"⟩ ∈ zTB := zw 878 (by decide +kernel)
theorem w879 : Cond.code ⟨"NameRailModel", "hangs", "(I)Z"⟩ prog_8_method_19_code 2 (some FieldType.boolean) ∈ zTB := zw 879 (by decide +kernel)
theorem w880 : Cond.methodLink "NameRailModel" 112 ⟨"NameRailModel", "foesOf", "(I)I"⟩ ∈ zTB := zw 880 (by decide +kernel)
theorem w882 : Cond.instanceMethod ⟨"NameRailModel", "foesOf", "(I)I"⟩ ∈ zTB := zw 882 (by decide +kernel)
theorem w883 : Cond.code ⟨"NameRailModel", "foesOf", "(I)I"⟩ prog_8_method_21_code 4 (some FieldType.int) ∈ zTB := zw 883 (by decide +kernel)
theorem w884 : Cond.methodLink "NameRailModel" 96 ⟨"NameRailModel", "doQuarrel", "(II)Z"⟩ ∈ zTB := zw 884 (by decide +kernel)
theorem w886 : Cond.instanceMethod ⟨"NameRailModel", "doQuarrel", "(II)Z"⟩ ∈ zTB := zw 886 (by decide +kernel)
theorem w887 : Cond.code ⟨"NameRailModel", "doQuarrel", "(II)Z"⟩ prog_8_method_20_code 3 (some FieldType.boolean) ∈ zTB := zw 887 (by decide +kernel)
theorem w891 : Cond.code ⟨"NameRailModel", "change", "(III)I"⟩ prog_8_method_24_code 4 (some FieldType.int) ∈ zTB := zw 891 (by decide +kernel)
theorem w892 : Cond.methodLink "NameRailModel" 116 ⟨"NameRailModel", "mayBe", "(III)Z"⟩ ∈ zTB := zw 892 (by decide +kernel)
theorem w894 : Cond.instanceMethod ⟨"NameRailModel", "mayBe", "(III)Z"⟩ ∈ zTB := zw 894 (by decide +kernel)
theorem w895 : Cond.code ⟨"NameRailModel", "mayBe", "(III)Z"⟩ prog_8_method_23_code 4 (some FieldType.boolean) ∈ zTB := zw 895 (by decide +kernel)
theorem w896 : Cond.constant "NameRailModel" 115 (99999 : Int32) ∈ zTB := zw 896 (by decide +kernel)
theorem w897 : Cond.methodLink "NameRailModel" 119 ⟨"NameRailModel", "become", "(II)I"⟩ ∈ zTB := zw 897 (by decide +kernel)
theorem w899 : Cond.instanceMethod ⟨"NameRailModel", "become", "(II)I"⟩ ∈ zTB := zw 899 (by decide +kernel)
theorem w900 : Cond.code ⟨"NameRailModel", "become", "(II)I"⟩ prog_8_method_4_code 4 (some FieldType.int) ∈ zTB := zw 900 (by decide +kernel)
theorem w904 : Cond.code ⟨"NameRailModel", "person", "(III)I"⟩ prog_8_method_26_code 5 (some FieldType.int) ∈ zTB := zw 904 (by decide +kernel)
theorem w905 : Cond.methodLink "NameRailModel" 122 ⟨"NameRailModel", "isPurse", "(I)Z"⟩ ∈ zTB := zw 905 (by decide +kernel)
theorem w906 : Cond.static ⟨"NameRailModel", "isPurse", "(I)Z"⟩ ∈ zTB := zw 906 (by decide +kernel)
theorem w907 : Cond.code ⟨"NameRailModel", "isPurse", "(I)Z"⟩ prog_8_method_25_code 1 (some FieldType.boolean) ∈ zTB := zw 907 (by decide +kernel)
theorem w908 : Cond.methodLink "NameRailModel" 125 ⟨"NameRailModel", "isPerson", "(I)Z"⟩ ∈ zTB := zw 908 (by decide +kernel)
theorem w909 : Cond.static ⟨"NameRailModel", "isPerson", "(I)Z"⟩ ∈ zTB := zw 909 (by decide +kernel)
theorem w910 : Cond.code ⟨"NameRailModel", "isPerson", "(I)Z"⟩ prog_8_method_11_code 1 (some FieldType.boolean) ∈ zTB := zw 910 (by decide +kernel)
theorem w914 : Cond.code ⟨"NameRailModel", "personOf", "(II)I"⟩ prog_8_method_30_code 3 (some FieldType.int) ∈ zTB := zw 914 (by decide +kernel)
theorem w915 : Cond.methodLink "NameRailModel" 139 ⟨"NameRailModel", "placeOf", "(I)I"⟩ ∈ zTB := zw 915 (by decide +kernel)
theorem w917 : Cond.instanceMethod ⟨"NameRailModel", "placeOf", "(I)I"⟩ ∈ zTB := zw 917 (by decide +kernel)
theorem w918 : Cond.code ⟨"NameRailModel", "placeOf", "(I)I"⟩ prog_8_method_29_code 3 (some FieldType.int) ∈ zTB := zw 918 (by decide +kernel)
theorem w919 : Cond.methodLink "NameRailModel" 136 ⟨"NameRailModel", "standsAt", "(II)I"⟩ ∈ zTB := zw 919 (by decide +kernel)
theorem w920 : Cond.static ⟨"NameRailModel", "standsAt", "(II)I"⟩ ∈ zTB := zw 920 (by decide +kernel)
theorem w921 : Cond.code ⟨"NameRailModel", "standsAt", "(II)I"⟩ prog_8_method_28_code 9 (some FieldType.int) ∈ zTB := zw 921 (by decide +kernel)
theorem w922 : Cond.methodLink "NameRailModel" 128 ⟨"java/lang/Math", "max", "(II)I"⟩ ∈ zTB := zw 922 (by decide +kernel)
theorem w923 : Cond.methodLink "NameRailModel" 133 ⟨"NameRailModel", "has", "(II)Z"⟩ ∈ zTB := zw 923 (by decide +kernel)
theorem w924 : Cond.static ⟨"NameRailModel", "has", "(II)Z"⟩ ∈ zTB := zw 924 (by decide +kernel)
theorem w925 : Cond.code ⟨"NameRailModel", "has", "(II)Z"⟩ prog_8_method_8_code 2 (some FieldType.boolean) ∈ zTB := zw 925 (by decide +kernel)
theorem w929 : Cond.code ⟨"NameRailModel", "order", "(I)I"⟩ prog_8_method_31_code 2 (some FieldType.int) ∈ zTB := zw 929 (by decide +kernel)
theorem w930 : Cond.methodLink "NameRailModel" 142 ⟨"NameRailModel", "isOrder", "(I)Z"⟩ ∈ zTB := zw 930 (by decide +kernel)
theorem w931 : Cond.static ⟨"NameRailModel", "isOrder", "(I)Z"⟩ ∈ zTB := zw 931 (by decide +kernel)
theorem w932 : Cond.code ⟨"NameRailModel", "isOrder", "(I)Z"⟩ prog_8_method_27_code 1 (some FieldType.boolean) ∈ zTB := zw 932 (by decide +kernel)
theorem w936 : Cond.code ⟨"NameRailModel", "at", "(II)I"⟩ prog_8_method_32_code 3 (some FieldType.int) ∈ zTB := zw 936 (by decide +kernel)
theorem w940 : Cond.code ⟨"NameRailModel", "go", "(I)I"⟩ prog_8_method_40_code 2 (some FieldType.int) ∈ zTB := zw 940 (by decide +kernel)
theorem w941 : Cond.constant "NameRailModel" 164 (-1000005 : Int32) ∈ zTB := zw 941 (by decide +kernel)
theorem w942 : Cond.methodLink "NameRailModel" 165 ⟨"NameRailModel", "days", "(I)V"⟩ ∈ zTB := zw 942 (by decide +kernel)
theorem w944 : Cond.instanceMethod ⟨"NameRailModel", "days", "(I)V"⟩ ∈ zTB := zw 944 (by decide +kernel)
theorem w945 : Cond.code ⟨"NameRailModel", "days", "(I)V"⟩ prog_8_method_38_code 3 (none : Option FieldType) ∈ zTB := zw 945 (by decide +kernel)
theorem w946 : Cond.methodLink "NameRailModel" 161 ⟨"NameRailModel", "day", "()V"⟩ ∈ zTB := zw 946 (by decide +kernel)
theorem w948 : Cond.instanceMethod ⟨"NameRailModel", "day", "()V"⟩ ∈ zTB := zw 948 (by decide +kernel)
theorem w949 : Cond.code ⟨"NameRailModel", "day", "()V"⟩ prog_8_method_37_code 3 (none : Option FieldType) ∈ zTB := zw 949 (by decide +kernel)
theorem w950 : Cond.methodLink "NameRailModel" 151 ⟨"NameRailModel", "drawBy", "(I)I"⟩ ∈ zTB := zw 950 (by decide +kernel)
theorem w952 : Cond.instanceMethod ⟨"NameRailModel", "drawBy", "(I)I"⟩ ∈ zTB := zw 952 (by decide +kernel)
theorem w953 : Cond.code ⟨"NameRailModel", "drawBy", "(I)I"⟩ prog_8_method_34_code 7 (some FieldType.int) ∈ zTB := zw 953 (by decide +kernel)
theorem w954 : Cond.methodLink "NameRailModel" 145 ⟨"NameRailModel", "leastLeft", "(I)I"⟩ ∈ zTB := zw 954 (by decide +kernel)
theorem w956 : Cond.instanceMethod ⟨"NameRailModel", "leastLeft", "(I)I"⟩ ∈ zTB := zw 956 (by decide +kernel)
theorem w957 : Cond.code ⟨"NameRailModel", "leastLeft", "(I)I"⟩ prog_8_method_33_code 3 (some FieldType.int) ∈ zTB := zw 957 (by decide +kernel)
theorem w958 : Cond.methodLink "NameRailModel" 154 ⟨"NameRailModel", "pays", "(I)V"⟩ ∈ zTB := zw 958 (by decide +kernel)
theorem w960 : Cond.instanceMethod ⟨"NameRailModel", "pays", "(I)V"⟩ ∈ zTB := zw 960 (by decide +kernel)
theorem w961 : Cond.code ⟨"NameRailModel", "pays", "(I)V"⟩ prog_8_method_36_code 5 (none : Option FieldType) ∈ zTB := zw 961 (by decide +kernel)
theorem w962 : Cond.methodLink "NameRailModel" 148 ⟨"java/lang/Math", "min", "(II)I"⟩ ∈ zTB := zw 962 (by decide +kernel)
theorem w963 : Cond.methodLink "NameRailModel" 158 ⟨"NameRailModel", "quarrelsIn", "(I)I"⟩ ∈ zTB := zw 963 (by decide +kernel)
theorem w965 : Cond.instanceMethod ⟨"NameRailModel", "quarrelsIn", "(I)I"⟩ ∈ zTB := zw 965 (by decide +kernel)
theorem w966 : Cond.code ⟨"NameRailModel", "quarrelsIn", "(I)I"⟩ prog_8_method_35_code 5 (some FieldType.int) ∈ zTB := zw 966 (by decide +kernel)
theorem w967 : Cond.methodLink "NameRailModel" 168 ⟨"NameRailModel", "purses", "()I"⟩ ∈ zTB := zw 967 (by decide +kernel)
theorem w969 : Cond.instanceMethod ⟨"NameRailModel", "purses", "()I"⟩ ∈ zTB := zw 969 (by decide +kernel)
theorem w970 : Cond.code ⟨"NameRailModel", "purses", "()I"⟩ prog_8_method_39_code 3 (some FieldType.int) ∈ zTB := zw 970 (by decide +kernel)
theorem w974 : Cond.code ⟨"NameRailModel", "now", "(I)I"⟩ prog_8_method_43_code 2 (some FieldType.int) ∈ zTB := zw 974 (by decide +kernel)
theorem w975 : Cond.methodLink "NameRailModel" 172 ⟨"NameRailModel", "hungNow", "()I"⟩ ∈ zTB := zw 975 (by decide +kernel)
theorem w977 : Cond.instanceMethod ⟨"NameRailModel", "hungNow", "()I"⟩ ∈ zTB := zw 977 (by decide +kernel)
theorem w978 : Cond.code ⟨"NameRailModel", "hungNow", "()I"⟩ prog_8_method_41_code 3 (some FieldType.int) ∈ zTB := zw 978 (by decide +kernel)
theorem w979 : Cond.methodLink "NameRailModel" 175 ⟨"NameRailModel", "debts", "()I"⟩ ∈ zTB := zw 979 (by decide +kernel)
theorem w981 : Cond.instanceMethod ⟨"NameRailModel", "debts", "()I"⟩ ∈ zTB := zw 981 (by decide +kernel)
theorem w982 : Cond.code ⟨"NameRailModel", "debts", "()I"⟩ prog_8_method_42_code 3 (some FieldType.int) ∈ zTB := zw 982 (by decide +kernel)
theorem w986 : Cond.code ⟨"NameRailModel", "mend", "(III)I"⟩ prog_8_method_44_code 4 (some FieldType.int) ∈ zTB := zw 986 (by decide +kernel)
theorem w990 : Cond.code ⟨"NameRailModel", "wears", "(I)I"⟩ prog_8_method_45_code 2 (some FieldType.int) ∈ zTB := zw 990 (by decide +kernel)
theorem w994 : Cond.code ⟨"NameRailModel", "ahead", "(II)I"⟩ prog_8_method_47_code 3 (some FieldType.int) ∈ zTB := zw 994 (by decide +kernel)
theorem w995 : Cond.methodLink "NameRailModel" 181 ⟨"NameRailModel", "behind", "(II)I"⟩ ∈ zTB := zw 995 (by decide +kernel)
theorem w997 : Cond.instanceMethod ⟨"NameRailModel", "behind", "(II)I"⟩ ∈ zTB := zw 997 (by decide +kernel)
theorem w998 : Cond.code ⟨"NameRailModel", "behind", "(II)I"⟩ prog_8_method_46_code 3 (some FieldType.int) ∈ zTB := zw 998 (by decide +kernel)
theorem w999 : Cond.methodLink "NameRailModel" 67 ⟨"NameRailModel", "copyRow", "([I[I)V"⟩ ∈ zTB := zw 999 (by decide +kernel)
theorem w1000 : Cond.static ⟨"NameRailModel", "copyRow", "([I[I)V"⟩ ∈ zTB := zw 1000 (by decide +kernel)
theorem w1001 : Cond.code ⟨"NameRailModel", "copyRow", "([I[I)V"⟩ prog_8_method_5_code 3 (none : Option FieldType) ∈ zTB := zw 1001 (by decide +kernel)
theorem w1002 : Cond.methodLink "NameRailModel" 178 ⟨"NameRailModel", "putBack", "(I)I"⟩ ∈ zTB := zw 1002 (by decide +kernel)
theorem w1004 : Cond.instanceMethod ⟨"NameRailModel", "putBack", "(I)I"⟩ ∈ zTB := zw 1004 (by decide +kernel)
theorem w1005 : Cond.code ⟨"NameRailModel", "putBack", "(I)I"⟩ prog_8_method_6_code 2 (some FieldType.int) ∈ zTB := zw 1005 (by decide +kernel)
theorem w1009 : Cond.code ⟨"NameRailModel", "owes", "(II)I"⟩ prog_8_method_48_code 3 (some FieldType.int) ∈ zTB := zw 1009 (by decide +kernel)
theorem w1013 : Cond.code ⟨"NameRailModel", "lasts", "(I)I"⟩ prog_8_method_50_code 3 (some FieldType.int) ∈ zTB := zw 1013 (by decide +kernel)
theorem w1014 : Cond.methodLink "NameRailModel" 184 ⟨"NameRailModel", "hungFor", "(I)I"⟩ ∈ zTB := zw 1014 (by decide +kernel)
theorem w1016 : Cond.instanceMethod ⟨"NameRailModel", "hungFor", "(I)I"⟩ ∈ zTB := zw 1016 (by decide +kernel)
theorem w1017 : Cond.code ⟨"NameRailModel", "hungFor", "(I)I"⟩ prog_8_method_49_code 3 (some FieldType.int) ∈ zTB := zw 1017 (by decide +kernel)
theorem w1018 : Cond.constant "NameRailModel" 71 (-1000004 : Int32) ∈ zTB := zw 1018 (by decide +kernel)
theorem w1022 : Cond.code ⟨"NameRailModel", "broke", "(I)I"⟩ prog_8_method_51_code 3 (some FieldType.int) ∈ zTB := zw 1022 (by decide +kernel)
theorem w1023 : Cond.methodLink "NameRailModel" 187 ⟨"NameRailModel", "orNone", "(I)I"⟩ ∈ zTB := zw 1023 (by decide +kernel)
theorem w1025 : Cond.instanceMethod ⟨"NameRailModel", "orNone", "(I)I"⟩ ∈ zTB := zw 1025 (by decide +kernel)
theorem w1026 : Cond.code ⟨"NameRailModel", "orNone", "(I)I"⟩ prog_8_method_7_code 2 (some FieldType.int) ∈ zTB := zw 1026 (by decide +kernel)
theorem w1030 : Cond.code ⟨"NameRailModel", "often", "(III)I"⟩ prog_8_method_52_code 6 (some FieldType.int) ∈ zTB := zw 1030 (by decide +kernel)
theorem w1034 : Cond.code ⟨"NameRailModel", "kindFor", "(I)I"⟩ prog_8_method_53_code 7 (some FieldType.int) ∈ zTB := zw 1034 (by decide +kernel)
theorem w1038 : Cond.code ⟨"NameRailModel", "orderFor", "(II)I"⟩ prog_8_method_55_code 4 (some FieldType.int) ∈ zTB := zw 1038 (by decide +kernel)
theorem w1039 : Cond.methodLink "NameRailModel" 190 ⟨"NameRailModel", "doesDraw", "(III)Z"⟩ ∈ zTB := zw 1039 (by decide +kernel)
theorem w1041 : Cond.instanceMethod ⟨"NameRailModel", "doesDraw", "(III)Z"⟩ ∈ zTB := zw 1041 (by decide +kernel)
theorem w1042 : Cond.code ⟨"NameRailModel", "doesDraw", "(III)Z"⟩ prog_8_method_54_code 4 (some FieldType.boolean) ∈ zTB := zw 1042 (by decide +kernel)
theorem w1046 : Cond.code ⟨"NameRailModel", "orders", "(II)I"⟩ prog_8_method_56_code 5 (some FieldType.int) ∈ zTB := zw 1046 (by decide +kernel)
theorem w1050 : Cond.code ⟨"NameRailModel", "cheapest", "()I"⟩ prog_8_method_59_code 1 (some FieldType.int) ∈ zTB := zw 1050 (by decide +kernel)
theorem w1051 : Cond.methodLink "NameRailModel" 199 ⟨"NameRailModel", "leastOrder", "(Z)I"⟩ ∈ zTB := zw 1051 (by decide +kernel)
theorem w1053 : Cond.instanceMethod ⟨"NameRailModel", "leastOrder", "(Z)I"⟩ ∈ zTB := zw 1053 (by decide +kernel)
theorem w1054 : Cond.code ⟨"NameRailModel", "leastOrder", "(Z)I"⟩ prog_8_method_58_code 7 (some FieldType.int) ∈ zTB := zw 1054 (by decide +kernel)
theorem w1055 : Cond.constant "NameRailModel" 195 (2147483647 : Int32) ∈ zTB := zw 1055 (by decide +kernel)
theorem w1056 : Cond.methodLink "NameRailModel" 196 ⟨"NameRailModel", "duesIn", "(I)I"⟩ ∈ zTB := zw 1056 (by decide +kernel)
theorem w1058 : Cond.instanceMethod ⟨"NameRailModel", "duesIn", "(I)I"⟩ ∈ zTB := zw 1058 (by decide +kernel)
theorem w1059 : Cond.code ⟨"NameRailModel", "duesIn", "(I)I"⟩ prog_8_method_57_code 4 (some FieldType.int) ∈ zTB := zw 1059 (by decide +kernel)
theorem w1063 : Cond.code ⟨"NameRailModel", "calmest", "()I"⟩ prog_8_method_60_code 1 (some FieldType.int) ∈ zTB := zw 1063 (by decide +kernel)
theorem w1067 : Cond.code ⟨"NameRailModel", "best", "(II)I"⟩ prog_8_method_62_code 3 (some FieldType.int) ∈ zTB := zw 1067 (by decide +kernel)
theorem w1068 : Cond.methodLink "NameRailModel" 203 ⟨"NameRailModel", "greatest", "(IIIII)I"⟩ ∈ zTB := zw 1068 (by decide +kernel)
theorem w1070 : Cond.instanceMethod ⟨"NameRailModel", "greatest", "(IIIII)I"⟩ ∈ zTB := zw 1070 (by decide +kernel)
theorem w1071 : Cond.code ⟨"NameRailModel", "greatest", "(IIIII)I"⟩ prog_8_method_61_code 11 (some FieldType.int) ∈ zTB := zw 1071 (by decide +kernel)
theorem w1075 : Cond.code ⟨"NameRailModel", "wishFor", "(II)I"⟩ prog_8_method_63_code 3 (some FieldType.int) ∈ zTB := zw 1075 (by decide +kernel)
theorem w1079 : Cond.code ⟨"NameRailModel", "peace", "()I"⟩ prog_8_method_65_code 5 (some FieldType.int) ∈ zTB := zw 1079 (by decide +kernel)
theorem w1080 : Cond.methodLink "NameRailModel" 207 ⟨"NameRailModel", "bits", "(I)I"⟩ ∈ zTB := zw 1080 (by decide +kernel)
theorem w1081 : Cond.static ⟨"NameRailModel", "bits", "(I)I"⟩ ∈ zTB := zw 1081 (by decide +kernel)
theorem w1082 : Cond.code ⟨"NameRailModel", "bits", "(I)I"⟩ prog_8_method_9_code 3 (some FieldType.int) ∈ zTB := zw 1082 (by decide +kernel)
theorem w1083 : Cond.methodLink "NameRailModel" 210 ⟨"NameRailModel", "isPeace", "(I)Z"⟩ ∈ zTB := zw 1083 (by decide +kernel)
theorem w1085 : Cond.instanceMethod ⟨"NameRailModel", "isPeace", "(I)Z"⟩ ∈ zTB := zw 1085 (by decide +kernel)
theorem w1086 : Cond.code ⟨"NameRailModel", "isPeace", "(I)Z"⟩ prog_8_method_64_code 2 (some FieldType.boolean) ∈ zTB := zw 1086 (by decide +kernel)
theorem w1090 : Cond.code ⟨"NameRailModel", "peaceful", "(I)I"⟩ prog_8_method_66_code 5 (some FieldType.int) ∈ zTB := zw 1090 (by decide +kernel)
theorem w1094 : Cond.code ⟨"NameRailModel", "groups", "()I"⟩ prog_8_method_67_code 5 (some FieldType.int) ∈ zTB := zw 1094 (by decide +kernel)
theorem w1098 : Cond.code ⟨"NameRailModel", "mendFor", "(I)I"⟩ prog_8_method_70_code 2 (some FieldType.int) ∈ zTB := zw 1098 (by decide +kernel)
theorem w1099 : Cond.methodLink "NameRailModel" 216 ⟨"NameRailModel", "pursesBy", "(II)I"⟩ ∈ zTB := zw 1099 (by decide +kernel)
theorem w1101 : Cond.instanceMethod ⟨"NameRailModel", "pursesBy", "(II)I"⟩ ∈ zTB := zw 1101 (by decide +kernel)
theorem w1102 : Cond.code ⟨"NameRailModel", "pursesBy", "(II)I"⟩ prog_8_method_68_code 8 (some FieldType.int) ∈ zTB := zw 1102 (by decide +kernel)
theorem w1103 : Cond.methodLink "NameRailModel" 213 ⟨"NameRailModel", "putBackPurses", "()I"⟩ ∈ zTB := zw 1103 (by decide +kernel)
theorem w1105 : Cond.instanceMethod ⟨"NameRailModel", "putBackPurses", "()I"⟩ ∈ zTB := zw 1105 (by decide +kernel)
theorem w1106 : Cond.code ⟨"NameRailModel", "putBackPurses", "()I"⟩ prog_8_method_69_code 2 (some FieldType.int) ∈ zTB := zw 1106 (by decide +kernel)
theorem w1110 : Cond.code ⟨"NameRailModel", "without", "(I)I"⟩ prog_8_method_71_code 2 (some FieldType.int) ∈ zTB := zw 1110 (by decide +kernel)
theorem w1114 : Cond.code ⟨"NameRailModel", "fits", "(II)I"⟩ prog_8_method_75_code 3 (some FieldType.int) ∈ zTB := zw 1114 (by decide +kernel)
theorem w1115 : Cond.methodLink "NameRailModel" 226 ⟨"NameRailModel", "lacks", "(I)I"⟩ ∈ zTB := zw 1115 (by decide +kernel)
theorem w1117 : Cond.instanceMethod ⟨"NameRailModel", "lacks", "(I)I"⟩ ∈ zTB := zw 1117 (by decide +kernel)
theorem w1118 : Cond.code ⟨"NameRailModel", "lacks", "(I)I"⟩ prog_8_method_72_code 2 (some FieldType.int) ∈ zTB := zw 1118 (by decide +kernel)
theorem w1119 : Cond.methodLink "NameRailModel" 219 ⟨"NameRailModel", "isSheet", "(I)Z"⟩ ∈ zTB := zw 1119 (by decide +kernel)
theorem w1120 : Cond.static ⟨"NameRailModel", "isSheet", "(I)Z"⟩ ∈ zTB := zw 1120 (by decide +kernel)
theorem w1121 : Cond.code ⟨"NameRailModel", "isSheet", "(I)Z"⟩ prog_8_method_97_code 1 (some FieldType.boolean) ∈ zTB := zw 1121 (by decide +kernel)
theorem w1122 : Cond.constant "NameRailModel" 222 (-1000006 : Int32) ∈ zTB := zw 1122 (by decide +kernel)
theorem w1123 : Cond.methodLink "NameRailModel" 229 ⟨"NameRailModel", "fitting", "(II)I"⟩ ∈ zTB := zw 1123 (by decide +kernel)
theorem w1125 : Cond.instanceMethod ⟨"NameRailModel", "fitting", "(II)I"⟩ ∈ zTB := zw 1125 (by decide +kernel)
theorem w1126 : Cond.code ⟨"NameRailModel", "fitting", "(II)I"⟩ prog_8_method_74_code 6 (some FieldType.int) ∈ zTB := zw 1126 (by decide +kernel)
theorem w1127 : Cond.methodLink "NameRailModel" 223 ⟨"NameRailModel", "wentSo", "(II)Z"⟩ ∈ zTB := zw 1127 (by decide +kernel)
theorem w1129 : Cond.instanceMethod ⟨"NameRailModel", "wentSo", "(II)Z"⟩ ∈ zTB := zw 1129 (by decide +kernel)
theorem w1130 : Cond.code ⟨"NameRailModel", "wentSo", "(II)Z"⟩ prog_8_method_73_code 6 (some FieldType.boolean) ∈ zTB := zw 1130 (by decide +kernel)
theorem w1134 : Cond.code ⟨"NameRailModel", "wish", "(II)I"⟩ prog_8_method_76_code 5 (some FieldType.int) ∈ zTB := zw 1134 (by decide +kernel)
theorem w1138 : Cond.code ⟨"NameRailModel", "moths", "(I)I"⟩ prog_8_method_78_code 4 (some FieldType.int) ∈ zTB := zw 1138 (by decide +kernel)
theorem w1139 : Cond.methodLink "NameRailModel" 233 ⟨"NameRailModel", "drawnNumber", "()I"⟩ ∈ zTB := zw 1139 (by decide +kernel)
theorem w1141 : Cond.instanceMethod ⟨"NameRailModel", "drawnNumber", "()I"⟩ ∈ zTB := zw 1141 (by decide +kernel)
theorem w1142 : Cond.code ⟨"NameRailModel", "drawnNumber", "()I"⟩ prog_8_method_77_code 1 (some FieldType.int) ∈ zTB := zw 1142 (by decide +kernel)
theorem w1143 : Cond.constant "NameRailModel" 232 (1103515245 : Int32) ∈ zTB := zw 1143 (by decide +kernel)
theorem w1147 : Cond.code ⟨"NameRailModel", "odds", "(II)J"⟩ prog_8_method_79_code 8 (some FieldType.long) ∈ zTB := zw 1147 (by decide +kernel)
theorem w1151 : Cond.code ⟨"NameRailModel", "seed", "(I)I"⟩ prog_8_method_80_code 2 (some FieldType.int) ∈ zTB := zw 1151 (by decide +kernel)
theorem w1155 : Cond.code ⟨"NameRailModel", "feed", "(II)I"⟩ prog_8_method_81_code 4 (some FieldType.int) ∈ zTB := zw 1155 (by decide +kernel)
theorem w1159 : Cond.code ⟨"NameRailModel", "wipe", "()I"⟩ prog_8_method_82_code 2 (some FieldType.int) ∈ zTB := zw 1159 (by decide +kernel)
theorem w1163 : Cond.code ⟨"NameRailModel", "text", "()I"⟩ prog_8_method_93_code 3 (some FieldType.int) ∈ zTB := zw 1163 (by decide +kernel)
theorem w1164 : Cond.methodLink "NameRailModel" 266 ⟨"NameRailModel", "next", "()V"⟩ ∈ zTB := zw 1164 (by decide +kernel)
theorem w1166 : Cond.instanceMethod ⟨"NameRailModel", "next", "()V"⟩ ∈ zTB := zw 1166 (by decide +kernel)
theorem w1167 : Cond.code ⟨"NameRailModel", "next", "()V"⟩ prog_8_method_84_code 2 (none : Option FieldType) ∈ zTB := zw 1167 (by decide +kernel)
theorem w1168 : Cond.methodLink "NameRailModel" 246 ⟨"NameRailModel", "byteAt", "(I)I"⟩ ∈ zTB := zw 1168 (by decide +kernel)
theorem w1170 : Cond.instanceMethod ⟨"NameRailModel", "byteAt", "(I)I"⟩ ∈ zTB := zw 1170 (by decide +kernel)
theorem w1171 : Cond.code ⟨"NameRailModel", "byteAt", "(I)I"⟩ prog_8_method_83_code 2 (some FieldType.int) ∈ zTB := zw 1171 (by decide +kernel)
theorem w1172 : Cond.methodLink "NameRailModel" 309 ⟨"NameRailModel", "readItem", "()V"⟩ ∈ zTB := zw 1172 (by decide +kernel)
theorem w1174 : Cond.instanceMethod ⟨"NameRailModel", "readItem", "()V"⟩ ∈ zTB := zw 1174 (by decide +kernel)
theorem w1175 : Cond.code ⟨"NameRailModel", "readItem", "()V"⟩ prog_8_method_91_code 4 (none : Option FieldType) ∈ zTB := zw 1175 (by decide +kernel)
theorem w1176 : Cond.methodLink "NameRailModel" 283 ⟨"NameRailModel", "kindTold", "()I"⟩ ∈ zTB := zw 1176 (by decide +kernel)
theorem w1178 : Cond.instanceMethod ⟨"NameRailModel", "kindTold", "()I"⟩ ∈ zTB := zw 1178 (by decide +kernel)
theorem w1179 : Cond.code ⟨"NameRailModel", "kindTold", "()I"⟩ prog_8_method_89_code 3 (some FieldType.int) ∈ zTB := zw 1179 (by decide +kernel)
theorem w1180 : Cond.methodLink "NameRailModel" 276 ⟨"NameRailModel", "isWord", "(Ljava/lang/String;)Z"⟩ ∈ zTB := zw 1180 (by decide +kernel)
theorem w1182 : Cond.instanceMethod ⟨"NameRailModel", "isWord", "(Ljava/lang/String;)Z"⟩ ∈ zTB := zw 1182 (by decide +kernel)
theorem w1183 : Cond.code ⟨"NameRailModel", "isWord", "(Ljava/lang/String;)Z"⟩ prog_8_method_85_code 4 (some FieldType.boolean) ∈ zTB := zw 1183 (by decide +kernel)
theorem w1184 : Cond.methodLink "NameRailModel" 255 ⟨"java/lang/String", "length", "()I"⟩ ∈ zTB := zw 1184 (by decide +kernel)
theorem w1185 : Cond.methodLink "NameRailModel" 258 ⟨"java/lang/String", "charAt", "(I)C"⟩ ∈ zTB := zw 1185 (by decide +kernel)
theorem w1186 : Cond.methodLink "NameRailModel" 269 ⟨"NameRailModel", "must", "(Z)V"⟩ ∈ zTB := zw 1186 (by decide +kernel)
theorem w1188 : Cond.instanceMethod ⟨"NameRailModel", "must", "(Z)V"⟩ ∈ zTB := zw 1188 (by decide +kernel)
theorem w1189 : Cond.code ⟨"NameRailModel", "must", "(Z)V"⟩ prog_8_method_86_code 2 (none : Option FieldType) ∈ zTB := zw 1189 (by decide +kernel)
theorem w1190 : Cond.methodLink "NameRailModel" 280 ⟨"NameRailModel", "number", "(II)I"⟩ ∈ zTB := zw 1190 (by decide +kernel)
theorem w1192 : Cond.instanceMethod ⟨"NameRailModel", "number", "(II)I"⟩ ∈ zTB := zw 1192 (by decide +kernel)
theorem w1193 : Cond.code ⟨"NameRailModel", "number", "(II)I"⟩ prog_8_method_87_code 4 (some FieldType.int) ∈ zTB := zw 1193 (by decide +kernel)
theorem w1195 : Cond.methodLink "NameRailModel" 291 ⟨"NameRailModel", "afterWord", "(Ljava/lang/String;II)I"⟩ ∈ zTB := zw 1195 (by decide +kernel)
theorem w1197 : Cond.instanceMethod ⟨"NameRailModel", "afterWord", "(Ljava/lang/String;II)I"⟩ ∈ zTB := zw 1197 (by decide +kernel)
theorem w1198 : Cond.code ⟨"NameRailModel", "afterWord", "(Ljava/lang/String;II)I"⟩ prog_8_method_90_code 4 (some FieldType.int) ∈ zTB := zw 1198 (by decide +kernel)
theorem w1200 : Cond.methodLink "NameRailModel" 297 ⟨"NameRailModel", "item", "(IIII)V"⟩ ∈ zTB := zw 1200 (by decide +kernel)
theorem w1202 : Cond.instanceMethod ⟨"NameRailModel", "item", "(IIII)V"⟩ ∈ zTB := zw 1202 (by decide +kernel)
theorem w1203 : Cond.code ⟨"NameRailModel", "item", "(IIII)V"⟩ prog_8_method_88_code 6 (none : Option FieldType) ∈ zTB := zw 1203 (by decide +kernel)
theorem w1208 : Cond.methodLink "NameRailModel" 312 ⟨"NameRailModel", "isToldSo", "(I)I"⟩ ∈ zTB := zw 1208 (by decide +kernel)
theorem w1210 : Cond.instanceMethod ⟨"NameRailModel", "isToldSo", "(I)I"⟩ ∈ zTB := zw 1210 (by decide +kernel)
theorem w1211 : Cond.code ⟨"NameRailModel", "isToldSo", "(I)I"⟩ prog_8_method_92_code 5 (some FieldType.int) ∈ zTB := zw 1211 (by decide +kernel)
theorem w1215 : Cond.code ⟨"NameRailModel", "hold", "(II)I"⟩ prog_8_method_95_code 3 (some FieldType.int) ∈ zTB := zw 1215 (by decide +kernel)
theorem w1216 : Cond.methodLink "NameRailModel" 315 ⟨"NameRailModel", "isSpot", "(I)Z"⟩ ∈ zTB := zw 1216 (by decide +kernel)
theorem w1217 : Cond.static ⟨"NameRailModel", "isSpot", "(I)Z"⟩ ∈ zTB := zw 1217 (by decide +kernel)
theorem w1218 : Cond.code ⟨"NameRailModel", "isSpot", "(I)Z"⟩ prog_8_method_94_code 1 (some FieldType.boolean) ∈ zTB := zw 1218 (by decide +kernel)
theorem w1222 : Cond.code ⟨"NameRailModel", "as", "(II)I"⟩ prog_8_method_96_code 4 (some FieldType.int) ∈ zTB := zw 1222 (by decide +kernel)
theorem w1223 : Cond.methodLink "NameRailModel" 318 ⟨"NameRailModel", "isUnder", "(II)Z"⟩ ∈ zTB := zw 1223 (by decide +kernel)
theorem w1224 : Cond.static ⟨"NameRailModel", "isUnder", "(II)Z"⟩ ∈ zTB := zw 1224 (by decide +kernel)
theorem w1225 : Cond.code ⟨"NameRailModel", "isUnder", "(II)Z"⟩ prog_8_method_103_code 3 (some FieldType.boolean) ∈ zTB := zw 1225 (by decide +kernel)
theorem w1226 : Cond.methodLink "NameRailModel" 326 ⟨"NameRailModel", "above", "(I)I"⟩ ∈ zTB := zw 1226 (by decide +kernel)
theorem w1227 : Cond.static ⟨"NameRailModel", "above", "(I)I"⟩ ∈ zTB := zw 1227 (by decide +kernel)
theorem w1228 : Cond.code ⟨"NameRailModel", "above", "(I)I"⟩ prog_8_method_102_code 1 (some FieldType.int) ∈ zTB := zw 1228 (by decide +kernel)
theorem w1229 : Cond.constant "NameRailModel" 321 (-1000003 : Int32) ∈ zTB := zw 1229 (by decide +kernel)
theorem w1233 : Cond.code ⟨"NameRailModel", "sheet", "(III)I"⟩ prog_8_method_99_code 5 (some FieldType.int) ∈ zTB := zw 1233 (by decide +kernel)
theorem w1234 : Cond.constant "NameRailModel" 322 (-1000007 : Int32) ∈ zTB := zw 1234 (by decide +kernel)
theorem w1238 : Cond.code ⟨"NameRailModel", "write", "(III)I"⟩ prog_8_method_100_code 4 (some FieldType.int) ∈ zTB := zw 1238 (by decide +kernel)
theorem w1239 : Cond.methodLink "NameRailModel" 323 ⟨"NameRailModel", "cutTo", "(II)I"⟩ ∈ zTB := zw 1239 (by decide +kernel)
theorem w1240 : Cond.static ⟨"NameRailModel", "cutTo", "(II)I"⟩ ∈ zTB := zw 1240 (by decide +kernel)
theorem w1241 : Cond.code ⟨"NameRailModel", "cutTo", "(II)I"⟩ prog_8_method_98_code 2 (some FieldType.int) ∈ zTB := zw 1241 (by decide +kernel)
theorem w1245 : Cond.code ⟨"NameRailModel", "copy", "(IIIII)I"⟩ prog_8_method_101_code 7 (some FieldType.int) ∈ zTB := zw 1245 (by decide +kernel)
theorem w1249 : Cond.code ⟨"NameRailModel", "load", "(I)I"⟩ prog_8_method_104_code 3 (some FieldType.int) ∈ zTB := zw 1249 (by decide +kernel)
theorem w1253 : Cond.code ⟨"NameRailModel", "judge", "(I)I"⟩ prog_8_method_105_code 4 (some FieldType.int) ∈ zTB := zw 1253 (by decide +kernel)
theorem w1257 : Cond.code ⟨"NameRailModel", "image", "()I"⟩ prog_8_method_106_code 1 (some FieldType.int) ∈ zTB := zw 1257 (by decide +kernel)
theorem w1261 : Cond.code ⟨"NameRailModel", "undo", "()I"⟩ prog_8_method_107_code 1 (some FieldType.int) ∈ zTB := zw 1261 (by decide +kernel)
theorem w1265 : Cond.code ⟨"NameRailModel", "tear", "()I"⟩ prog_8_method_108_code 2 (some FieldType.int) ∈ zTB := zw 1265 (by decide +kernel)
theorem w1269 : Cond.code ⟨"NameRailModel", "count", "(I)I"⟩ prog_8_method_109_code 4 (some FieldType.int) ∈ zTB := zw 1269 (by decide +kernel)
theorem w1273 : Cond.code ⟨"NameRailModel", "status", "(I)I"⟩ prog_8_method_110_code 2 (some FieldType.int) ∈ zTB := zw 1273 (by decide +kernel)
theorem w1274 : Cond.fieldLink "java/lang/String" 9 "java/lang/String" "value" "[B" ∈ zTB := zw 1274 (by decide +kernel)
theorem w1275 : Cond.fieldLink "java/lang/String" 15 "java/lang/String" "coder" "B" ∈ zTB := zw 1275 (by decide +kernel)
end
section
/-! THE ROWS: VV E nL pc L S M: the method, at pc with the locals L, the stack S and the memory M, comes to its end. -/
def zLen : List Nat := [4, 9, 6, 4, 7, 5, 4, 6, 5, 4, 7, 5, 6]
def zByt : List (List Int32) := [[110, 97, 109, 101], [115, 116, 114, 101, 116, 99, 104, 101, 100], [100, 111, 117, 98, 108, 101], [108, 101, 102, 116], [110, 111, 98, 111, 100, 121, 115], [109, 111, 116, 104, 121], [116, 111, 114, 110], [112, 101, 114, 115, 111, 110], [111, 114, 100, 101, 114], [119, 111, 114, 110], [97, 103, 97, 105, 110, 115, 116], [112, 117, 114, 115, 101], [119, 105, 115, 104, 101, 115]]
def zStrs : List (String × Nat × String × Nat) := [("NameRail$Reader", 70, "name", 0), ("NameRail$Reader", 78, "stretched", 1), ("NameRail$Reader", 80, "double", 2), ("NameRail$Reader", 82, "left", 3), ("NameRail$Reader", 84, "nobodys", 4), ("NameRail$Reader", 86, "mothy", 5), ("NameRail$Reader", 88, "torn", 6), ("NameRail$Reader", 115, "worn", 9), ("NameRail$Reader", 117, "against", 10), ("NameRail$Reader", 102, "person", 7), ("NameRail$Reader", 123, "purse", 11), ("NameRail$Reader", 128, "wishes", 12), ("NameRail$Reader", 107, "order", 8), ("NameRailModel", 33, "name", 0), ("NameRailModel", 35, "stretched", 1), ("NameRailModel", 37, "double", 2), ("NameRailModel", 39, "left", 3), ("NameRailModel", 41, "nobodys", 4), ("NameRailModel", 43, "mothy", 5), ("NameRailModel", 45, "torn", 6), ("NameRailModel", 289, "worn", 9), ("NameRailModel", 295, "against", 10), ("NameRailModel", 301, "order", 8), ("NameRailModel", 303, "person", 7), ("NameRailModel", 305, "purse", 11), ("NameRailModel", 307, "wishes", 12)]
def zNs : List (String × Nat × MethodName × String) := [("NameRail", 24, ⟨"NameRail$Tape", "<init>", "()V"⟩, "NameRail"), ("NameRail", 31, ⟨"NameRail$Reader", "<init>", "()V"⟩, "NameRail"), ("NameRail", 50, ⟨"NameRail$Sheet", "<init>", "()V"⟩, "NameRail"), ("NameRail$House", 86, ⟨"NameRail", "lowest", "(I)I"⟩, "NameRail")]
/-- the strings, the statics of the JDK: what no method of ours changes -/
def zExt (ad : Nat → Nat) (A : Nat → Prop) (U : State) (H : Heap) : Prop := vk_S 13 zLen zByt (fun i => ad (1000 + i)) (fun i => ad (2000 + i)) A U H ∧ va_Z "java/lang/String" "COMPACT_STRINGS" "Z" (.int 1) A U H ∧ (va_Z "jdk/internal/util/Preconditions" "SIOOBE_FORMATTER" "Ljava/util/function/BiFunction;" .null A U H ∨ va_Z "jdk/internal/util/Preconditions" "SIOOBE_FORMATTER" "Ljava/util/function/BiFunction;" (.ref (ad 3000)) A U H) ∧ (∀ q ∈ zStrs, vk_R q.1 q.2.1 q.2.2.1 (ad (1000 + q.2.2.2)) U) ∧ ∀ q ∈ zNs, va_Nw (.methodLinkNest q.1 q.2.1 q.2.2.1 q.2.2.2) U
theorem zExt_kept {ad : Nat → Nat} {A : Nat → Prop} {U : State} {H H1 : Heap} (h : zExt ad A U H) (hq : ∀ a : Nat, a < H.size → ¬ A a → H1[a]? = H[a]?) : zExt ad A U H1 := ⟨h.1.kept hq, h.2.1.kept hq, h.2.2.1.imp (fun z => z.kept hq) (fun z => z.kept hq), h.2.2.2⟩
theorem zExt_narrow {ad : Nat → Nat} {A B : Nat → Prop} {U : State} {H : Heap} (h : zExt ad A U H) (hAB : ∀ q, B q → A q) : zExt ad B U H := ⟨h.1.narrow hAB, h.2.1.narrow hAB, h.2.2.1.imp (fun z => z.narrow hAB) (fun z => z.narrow hAB), h.2.2.2⟩
theorem zExt_warm {ad : Nat → Nat} {A : Nat → Prop} {s U : State} {H : Heap} (hW : s.WarmedH U.vm) (h : zExt ad A s H) : zExt ad A U H := ⟨h.1.moved hW.alike, h.2.1.moved hW.alike, h.2.2.1.imp (fun z => z.moved hW.alike) (fun z => z.moved hW.alike), fun q hq => (h.2.2.2.1 q hq).warm hW, fun q hq => (h.2.2.2.2 q hq).warmM hW⟩
theorem zExt_same {ad : Nat → Nat} {A : Nat → Prop} {u U : State} {H : Heap} (hv : U.vm = u.vm) (h : zExt ad A u H) : zExt ad A U H := by
  have ha : u.vm.Alike U.vm := by rw [hv]; exact Vm.Alike.refl u.vm
  exact ⟨h.1.moved ha, h.2.1.moved ha, h.2.2.1.imp (fun z => z.moved ha) (fun z => z.moved ha), fun q hq => (h.2.2.2.1 q hq).same hv, fun q hq => va_Nw.same rfl hv.symm (h.2.2.2.2 q hq)⟩
/-- a method's run: the machine, its room, its start, its code, where it goes, the classes, the addresses, what was made -/
def zEv : Type := Program × Launch × Env × Room × State × MethodId × Array Value × List Frame × Method × Code × (State → Prop) × zG × (Nat → Nat) × Nat × Nat
abbrev ep (E : zEv) : Program := E.1
abbrev el (E : zEv) : Launch := E.2.1
abbrev ee (E : zEv) : Env := E.2.2.1
abbrev eR (E : zEv) : Room := E.2.2.2.1
abbrev es (E : zEv) : State := E.2.2.2.2.1
abbrev em (E : zEv) : MethodId := E.2.2.2.2.2.1
abbrev ea (E : zEv) : Array Value := E.2.2.2.2.2.2.1
abbrev ebl (E : zEv) : List Frame := E.2.2.2.2.2.2.2.1
abbrev eme (E : zEv) : Method := E.2.2.2.2.2.2.2.2.1
abbrev ec (E : zEv) : Code := E.2.2.2.2.2.2.2.2.2.1
abbrev eQ (E : zEv) : State → Prop := E.2.2.2.2.2.2.2.2.2.2.1
abbrev eG (E : zEv) : zG := E.2.2.2.2.2.2.2.2.2.2.2.1
abbrev ead (E : zEv) : Nat → Nat := E.2.2.2.2.2.2.2.2.2.2.2.2.1
abbrev ecl (E : zEv) : Nat := E.2.2.2.2.2.2.2.2.2.2.2.2.2.1
abbrev esl (E : zEv) : Nat := E.2.2.2.2.2.2.2.2.2.2.2.2.2.2
abbrev eA (E : zEv) : Nat → Prop := zA (ead E) (es E).heap.size
def zL (E : zEv) (L : List (Nat × Value)) : List (Nat × Value) := L.map fun q => (q.1, cv (ead E) q.2)
def VV (E : zEv) (nL pc : Nat) (L : List (Nat × Value)) (S : List Value) (M : zM) : Prop :=
  ∀ (H : Heap) (locs : List Loc) (ls : Array Slot), va_P (eG E).1 zCl (zW (eG E) (ead E) M) H → va_S (eA E) (es E).heap H locs → lv_has ls nL (zL E L) → W (ep E) (el E) (ee E) (eR E) (es E) (em E) (ea E) (ebl E) (eme E) (ec E) H locs (ecl E) (esl E) (eQ E) (F0 (em E) pc ls (S.map (cv (ead E))))
/-- what a run knows: the machine's rules, its code, its class, the tables' words, the classes, that the addresses are apart, the strings; its room -/
def zC (E : zEv) (cc : ByteArray) (nL : Nat) (own : String) (fr lo : Nat) : Prop :=
  (ep E).tables.exec = Jvm.exec ∧ (ec E).code = cc ∧ (ec E).maxLocals = nL ∧ (es E).vm.findClass own = some (em E).cls ∧ (∀ w ∈ zTB, w.before (ea E) (es E) = true) ∧ va_K (eG E).1 zCl (zTy (eG E)) (es E) ∧ zInj (ead E) ∧ zExt (ead E) (eA E) (es E) (es E).heap ∧ (fr ≤ (eR E).frames ∧ lo ≤ (eR E).locals) ∧ ecl E ≤ (eR E).cells ∧ esl E ≤ (eR E).slots
theorem zL_at {E : zEv} {ls : Array Slot} {nL : Nat} {L : List (Nat × Value)} (h : lv_has ls nL (zL E L)) {k i : Nat} {v : Value} (hk : L[k]? = some (i, v)) : ls[i]? = some (.val (cv (ead E) v)) := lv_at h k (by unfold zL; rw [List.getElem?_map, hk]; rfl)
theorem zL_f1 {E : zEv} {L L' : List (Nat × Value)} {i : Nat} {v : Value} (h : (i, v) :: L.filter (fun q => !(q.1 == i) && !(q.1 + 1 == i && q.2.category == 2)) = L') : (i, cv (ead E) v) :: (zL E L).filter (fun q => !(q.1 == i) && !(q.1 + 1 == i && q.2.category == 2)) = zL E L' := by
  subst h
  unfold zL
  rw [List.map_cons, List.filter_map]
  congr 2
  congr 1
  funext q
  simp [cv_cat]
theorem zL_f2 {E : zEv} {L L' : List (Nat × Value)} {i : Nat} {v : Value} (h : (i, v) :: L.filter (fun q => !(q.1 == i) && (!(q.1 == i + 1) && !(q.1 + 1 == i && q.2.category == 2))) = L') : (i, cv (ead E) v) :: (zL E L).filter (fun q => !(q.1 == i) && (!(q.1 == i + 1) && !(q.1 + 1 == i && q.2.category == 2))) = zL E L' := by
  subst h
  unfold zL
  rw [List.map_cons, List.filter_map]
  congr 2
  congr 1
  funext q
  simp [cv_cat]
theorem zL_sub {E : zEv} {ls : Array Slot} {nL : Nat} {L L' : List (Nat × Value)} (h : lv_has ls nL (zL E L)) (hs : ∀ q ∈ L', q ∈ L) : lv_has ls nL (zL E L') := by
  refine ⟨h.1, h.2.1, fun q hq => ?_⟩
  unfold zL at hq
  obtain ⟨r, hr, rfl⟩ := List.mem_map.mp hq
  exact h.2.2 _ (List.mem_map.mpr ⟨r, hs r hr, rfl⟩)
/-- fewer locals, in another order -/
theorem V_sub {E : zEv} {nL pc : Nat} {L L' : List (Nat × Value)} {S : List Value} {M : zM} (ks : List Nat) (hL : lv_pick L ks = L') (k : VV E nL pc L' S M) : VV E nL pc L S M := fun H locs ls hP hS hl => k H locs ls hP hS (zL_sub hl (fun q hq => by
  subst hL
  obtain ⟨i, -, hi⟩ := List.mem_filterMap.mp hq
  exact List.mem_of_getElem? hi))
theorem V_iadd {E : zEv} {cc : ByteArray} {nL pc fr lo : Nat} {own : String} {L : List (Nat × Value)} {S : List Value} {M : zM} {x y : Int32} (Z : zC E cc nL own fr lo) (hd : decode cc pc = .ok (.iadd, 1)) (k : VV E nL (pc + 1) L (.int (x + y) :: S) M) : VV E nL pc L (.int y :: .int x :: S) M := fun H locs ls hP hS hl => lv_iadd Z.1 Z.2.1 hd (k H locs ls hP hS hl)
theorem V_isub {E : zEv} {cc : ByteArray} {nL pc fr lo : Nat} {own : String} {L : List (Nat × Value)} {S : List Value} {M : zM} {x y : Int32} (Z : zC E cc nL own fr lo) (hd : decode cc pc = .ok (.isub, 1)) (k : VV E nL (pc + 1) L (.int (x - y) :: S) M) : VV E nL pc L (.int y :: .int x :: S) M := fun H locs ls hP hS hl => lv_isub Z.1 Z.2.1 hd (k H locs ls hP hS hl)
theorem V_imul {E : zEv} {cc : ByteArray} {nL pc fr lo : Nat} {own : String} {L : List (Nat × Value)} {S : List Value} {M : zM} {x y : Int32} (Z : zC E cc nL own fr lo) (hd : decode cc pc = .ok (.imul, 1)) (k : VV E nL (pc + 1) L (.int (x * y) :: S) M) : VV E nL pc L (.int y :: .int x :: S) M := fun H locs ls hP hS hl => lv_imul Z.1 Z.2.1 hd (k H locs ls hP hS hl)
theorem V_iand {E : zEv} {cc : ByteArray} {nL pc fr lo : Nat} {own : String} {L : List (Nat × Value)} {S : List Value} {M : zM} {x y : Int32} (Z : zC E cc nL own fr lo) (hd : decode cc pc = .ok (.iand, 1)) (k : VV E nL (pc + 1) L (.int (x &&& y) :: S) M) : VV E nL pc L (.int y :: .int x :: S) M := fun H locs ls hP hS hl => lv_iand Z.1 Z.2.1 hd (k H locs ls hP hS hl)
theorem V_ior {E : zEv} {cc : ByteArray} {nL pc fr lo : Nat} {own : String} {L : List (Nat × Value)} {S : List Value} {M : zM} {x y : Int32} (Z : zC E cc nL own fr lo) (hd : decode cc pc = .ok (.ior, 1)) (k : VV E nL (pc + 1) L (.int (x ||| y) :: S) M) : VV E nL pc L (.int y :: .int x :: S) M := fun H locs ls hP hS hl => lv_ior Z.1 Z.2.1 hd (k H locs ls hP hS hl)
theorem V_ixor {E : zEv} {cc : ByteArray} {nL pc fr lo : Nat} {own : String} {L : List (Nat × Value)} {S : List Value} {M : zM} {x y : Int32} (Z : zC E cc nL own fr lo) (hd : decode cc pc = .ok (.ixor, 1)) (k : VV E nL (pc + 1) L (.int (x ^^^ y) :: S) M) : VV E nL pc L (.int y :: .int x :: S) M := fun H locs ls hP hS hl => lv_ixor Z.1 Z.2.1 hd (k H locs ls hP hS hl)
theorem V_ishl {E : zEv} {cc : ByteArray} {nL pc fr lo : Nat} {own : String} {L : List (Nat × Value)} {S : List Value} {M : zM} {x y : Int32} (Z : zC E cc nL own fr lo) (hd : decode cc pc = .ok (.ishl, 1)) (k : VV E nL (pc + 1) L (.int (x <<< (y &&& 31)) :: S) M) : VV E nL pc L (.int y :: .int x :: S) M := fun H locs ls hP hS hl => lv_ishl Z.1 Z.2.1 hd (k H locs ls hP hS hl)
theorem V_ishr {E : zEv} {cc : ByteArray} {nL pc fr lo : Nat} {own : String} {L : List (Nat × Value)} {S : List Value} {M : zM} {x y : Int32} (Z : zC E cc nL own fr lo) (hd : decode cc pc = .ok (.ishr, 1)) (k : VV E nL (pc + 1) L (.int (x >>> (y &&& 31)) :: S) M) : VV E nL pc L (.int y :: .int x :: S) M := fun H locs ls hP hS hl => lv_ishr Z.1 Z.2.1 hd (k H locs ls hP hS hl)
theorem V_iushr {E : zEv} {cc : ByteArray} {nL pc fr lo : Nat} {own : String} {L : List (Nat × Value)} {S : List Value} {M : zM} {x y : Int32} (Z : zC E cc nL own fr lo) (hd : decode cc pc = .ok (.iushr, 1)) (k : VV E nL (pc + 1) L (.int ((x.toUInt32 >>> (y.toUInt32 &&& Int32.toUInt32 31)).toInt32) :: S) M) : VV E nL pc L (.int y :: .int x :: S) M := fun H locs ls hP hS hl => lv_iushr Z.1 Z.2.1 hd rfl (k H locs ls hP hS hl)
theorem V_idiv {E : zEv} {cc : ByteArray} {nL pc fr lo : Nat} {own : String} {L : List (Nat × Value)} {S : List Value} {M : zM} {x y v : Int32} (Z : zC E cc nL own fr lo) (hv : zdv x y = some v) (hd : decode cc pc = .ok (.idiv, 1)) (k : VV E nL (pc + 1) L (.int v :: S) M) : VV E nL pc L (.int y :: .int x :: S) M := by
  unfold zdv at hv
  split at hv
  · cases hv
  · cases hv; exact fun H locs ls hP hS hl => lv_idiv Z.1 Z.2.1 hd (by assumption) (k H locs ls hP hS hl)
theorem V_irem {E : zEv} {cc : ByteArray} {nL pc fr lo : Nat} {own : String} {L : List (Nat × Value)} {S : List Value} {M : zM} {x y v : Int32} (Z : zC E cc nL own fr lo) (hv : zrm x y = some v) (hd : decode cc pc = .ok (.irem, 1)) (k : VV E nL (pc + 1) L (.int v :: S) M) : VV E nL pc L (.int y :: .int x :: S) M := by
  unfold zrm at hv
  split at hv
  · cases hv
  · cases hv; exact fun H locs ls hP hS hl => lv_irem Z.1 Z.2.1 hd (by assumption) (k H locs ls hP hS hl)
theorem V_idivc {E : zEv} {cc : ByteArray} {nL pc fr lo : Nat} {own : String} {L : List (Nat × Value)} {S : List Value} {M : zM} {x y : Int32} (hne : ¬ y = 0) (Z : zC E cc nL own fr lo) (hd : decode cc pc = .ok (.idiv, 1)) (k : VV E nL (pc + 1) L (.int (x / y) :: S) M) : VV E nL pc L (.int y :: .int x :: S) M := fun H locs ls hP hS hl => lv_idiv Z.1 Z.2.1 hd hne (k H locs ls hP hS hl)
theorem V_iremc {E : zEv} {cc : ByteArray} {nL pc fr lo : Nat} {own : String} {L : List (Nat × Value)} {S : List Value} {M : zM} {x y : Int32} (hne : ¬ y = 0) (Z : zC E cc nL own fr lo) (hd : decode cc pc = .ok (.irem, 1)) (k : VV E nL (pc + 1) L (.int (x - x / y * y) :: S) M) : VV E nL pc L (.int y :: .int x :: S) M := fun H locs ls hP hS hl => lv_irem Z.1 Z.2.1 hd hne (k H locs ls hP hS hl)
theorem V_ladd {E : zEv} {cc : ByteArray} {nL pc fr lo : Nat} {own : String} {L : List (Nat × Value)} {S : List Value} {M : zM} {x y : Int64} (Z : zC E cc nL own fr lo) (hd : decode cc pc = .ok (.ladd, 1)) (k : VV E nL (pc + 1) L (.long (x + y) :: S) M) : VV E nL pc L (.long y :: .long x :: S) M := fun H locs ls hP hS hl => lv_ladd Z.1 Z.2.1 hd (k H locs ls hP hS hl)
theorem V_lmul {E : zEv} {cc : ByteArray} {nL pc fr lo : Nat} {own : String} {L : List (Nat × Value)} {S : List Value} {M : zM} {x y : Int64} (Z : zC E cc nL own fr lo) (hd : decode cc pc = .ok (.lmul, 1)) (k : VV E nL (pc + 1) L (.long (x * y) :: S) M) : VV E nL pc L (.long y :: .long x :: S) M := fun H locs ls hP hS hl => lv_lmul Z.1 Z.2.1 hd (k H locs ls hP hS hl)
theorem V_lcmp {E : zEv} {cc : ByteArray} {nL pc fr lo : Nat} {own : String} {L : List (Nat × Value)} {S : List Value} {M : zM} {x y : Int64} (Z : zC E cc nL own fr lo) (hd : decode cc pc = .ok (.lcmp, 1)) (k : VV E nL (pc + 1) L (.int (lg_cmp x y) :: S) M) : VV E nL pc L (.long y :: .long x :: S) M := fun H locs ls hP hS hl => W.lcmp Z.1 Z.2.1 hd (k H locs ls hP hS hl)
theorem V_ineg {E : zEv} {cc : ByteArray} {nL pc fr lo : Nat} {own : String} {L : List (Nat × Value)} {S : List Value} {M : zM} {x : Int32} (Z : zC E cc nL own fr lo) (hd : decode cc pc = .ok (.ineg, 1)) (k : VV E nL (pc + 1) L (.int (-x) :: S) M) : VV E nL pc L (.int x :: S) M := fun H locs ls hP hS hl => lv_ineg Z.1 Z.2.1 hd (k H locs ls hP hS hl)
theorem V_i2l {E : zEv} {cc : ByteArray} {nL pc fr lo : Nat} {own : String} {L : List (Nat × Value)} {S : List Value} {M : zM} {x : Int32} (Z : zC E cc nL own fr lo) (hd : decode cc pc = .ok (.i2l, 1)) (k : VV E nL (pc + 1) L (.long x.toInt64 :: S) M) : VV E nL pc L (.int x :: S) M := fun H locs ls hP hS hl => lv_i2l Z.1 Z.2.1 hd rfl (k H locs ls hP hS hl)
theorem V_i2b {E : zEv} {cc : ByteArray} {nL pc fr lo : Nat} {own : String} {L : List (Nat × Value)} {S : List Value} {M : zM} {x : Int32} (Z : zC E cc nL own fr lo) (hd : decode cc pc = .ok (.i2b, 1)) (k : VV E nL (pc + 1) L (.int x.toInt8.toInt32 :: S) M) : VV E nL pc L (.int x :: S) M := fun H locs ls hP hS hl => lv_i2b Z.1 Z.2.1 hd rfl (k H locs ls hP hS hl)
theorem V_i2s {E : zEv} {cc : ByteArray} {nL pc fr lo : Nat} {own : String} {L : List (Nat × Value)} {S : List Value} {M : zM} {x : Int32} (Z : zC E cc nL own fr lo) (hd : decode cc pc = .ok (.i2s, 1)) (k : VV E nL (pc + 1) L (.int x.toInt16.toInt32 :: S) M) : VV E nL pc L (.int x :: S) M := fun H locs ls hP hS hl => lv_i2s Z.1 Z.2.1 hd rfl (k H locs ls hP hS hl)
theorem V_iconst {E : zEv} {cc : ByteArray} {nL pc fr lo : Nat} {own : String} {L : List (Nat × Value)} {S : List Value} {M : zM} {n : Int} (v : Int32) (hv : Int32.ofInt n = v) (Z : zC E cc nL own fr lo) (hd : decode cc pc = .ok (.iconst n, 1)) (k : VV E nL (pc + 1) L (.int v :: S) M) : VV E nL pc L (S) M := fun H locs ls hP hS hl => lv_iconst Z.1 Z.2.1 hd hv (k H locs ls hP hS hl)
theorem V_bipush {E : zEv} {cc : ByteArray} {nL pc fr lo : Nat} {own : String} {L : List (Nat × Value)} {S : List Value} {M : zM} {n : Int} (v : Int32) (hv : (Int8.ofInt n).toInt32 = v) (Z : zC E cc nL own fr lo) (hd : decode cc pc = .ok (.bipush n, 2)) (k : VV E nL (pc + 2) L (.int v :: S) M) : VV E nL pc L (S) M := fun H locs ls hP hS hl => lv_bipush Z.1 Z.2.1 hd hv (k H locs ls hP hS hl)
theorem V_sipush {E : zEv} {cc : ByteArray} {nL pc fr lo : Nat} {own : String} {L : List (Nat × Value)} {S : List Value} {M : zM} {n : Int} (v : Int32) (hv : (Int16.ofInt n).toInt32 = v) (Z : zC E cc nL own fr lo) (hd : decode cc pc = .ok (.sipush n, 3)) (k : VV E nL (pc + 3) L (.int v :: S) M) : VV E nL pc L (S) M := fun H locs ls hP hS hl => lv_sipush Z.1 Z.2.1 hd hv (k H locs ls hP hS hl)
theorem V_lconst {E : zEv} {cc : ByteArray} {nL pc fr lo : Nat} {own : String} {L : List (Nat × Value)} {S : List Value} {M : zM} {n : Fin 2} (v : Int64) (hv : Int64.ofNat (n : Nat) = v) (Z : zC E cc nL own fr lo) (hd : decode cc pc = .ok (.lconst n, 1)) (k : VV E nL (pc + 1) L (.long v :: S) M) : VV E nL pc L (S) M := fun H locs ls hP hS hl => lv_lconst Z.1 Z.2.1 hd hv (k H locs ls hP hS hl)
theorem V_ldc {E : zEv} {cc : ByteArray} {nL pc fr lo : Nat} {own : String} {L : List (Nat × Value)} {S : List Value} {M : zM} {index : Nat} (v : Int32) (Z : zC E cc nL own fr lo) (hw : Cond.constant own index v ∈ zTB) (hd : decode cc pc = .ok (.ldc index, 2)) (k : VV E nL (pc + 2) L (.int v :: S) M) : VV E nL pc L S M := fun H locs ls hP hS hl => lv_ldc Z.1 Z.2.1 Z.2.2.2.1 (Z.2.2.2.2.1 _ hw) hd (k H locs ls hP hS hl)
theorem V_ldcS {E : zEv} {cc : ByteArray} {nL pc fr lo : Nat} {own : String} {L : List (Nat × Value)} {S : List Value} {M : zM} {index : Nat} (tx : String) (i : Nat) (Z : zC E cc nL own fr lo) (hq : (own, index, tx, i) ∈ zStrs) (hd : decode cc pc = .ok (.ldc index, 2)) (k : VV E nL (pc + 2) L (.ref (1000 + i) :: S) M) : VV E nL pc L S M := fun H locs ls hP hS hl => va_ldcS Z.1 Z.2.1 Z.2.2.2.1 (Z.2.2.2.2.2.2.2.1.2.2.2.1 _ hq) hd (k H locs ls hP hS hl)
theorem V_iload_n {E : zEv} {cc : ByteArray} {nL pc fr lo : Nat} {own : String} {L : List (Nat × Value)} {S : List Value} {M : zM} {f : Fin 4} {i : Nat} {x : Int32} (q : Nat) (Z : zC E cc nL own fr lo) (hL : L[q]? = some (i, .int x)) (hi : (f : Nat) = i) (hd : decode cc pc = .ok (.iload_n f, 1)) (k : VV E nL (pc + 1) L (.int x :: S) M) : VV E nL pc L S M := fun H locs ls hP hS hl => lv_iload_n Z.1 Z.2.1 hd hi (zL_at hl hL) (k H locs ls hP hS hl)
theorem V_iload {E : zEv} {cc : ByteArray} {nL pc fr lo : Nat} {own : String} {L : List (Nat × Value)} {S : List Value} {M : zM} {i : Nat} {x : Int32} (q : Nat) (Z : zC E cc nL own fr lo) (hL : L[q]? = some (i, .int x)) (hd : decode cc pc = .ok (.iload i, 2)) (k : VV E nL (pc + 2) L (.int x :: S) M) : VV E nL pc L S M := fun H locs ls hP hS hl => lv_iload Z.1 Z.2.1 hd (zL_at hl hL) (k H locs ls hP hS hl)
theorem V_istore_n {E : zEv} {cc : ByteArray} {nL pc fr lo : Nat} {own : String} {L : List (Nat × Value)} {S : List Value} {M : zM} {f : Fin 4} {i : Nat} {x : Int32} (L2 : List (Nat × Value)) (Z : zC E cc nL own fr lo) (hn : i < nL) (hL : (i, Value.int x) :: L.filter (fun q => !(q.1 == i) && !(q.1 + 1 == i && q.2.category == 2)) = L2) (hi : (f : Nat) = i) (hd : decode cc pc = .ok (.istore_n f, 1)) (k : VV E nL (pc + 1) L2 S M) : VV E nL pc L (.int x :: S) M := fun H locs ls hP hS hl => lv_istore_n Z.1 Z.2.1 hd hi hl hn (zL_f1 (E := E) hL) (fun ls2 hl2 => k H locs ls2 hP hS hl2)
theorem V_istore {E : zEv} {cc : ByteArray} {nL pc fr lo : Nat} {own : String} {L : List (Nat × Value)} {S : List Value} {M : zM} {i : Nat} {x : Int32} (L2 : List (Nat × Value)) (Z : zC E cc nL own fr lo) (hn : i < nL) (hL : (i, Value.int x) :: L.filter (fun q => !(q.1 == i) && !(q.1 + 1 == i && q.2.category == 2)) = L2) (hd : decode cc pc = .ok (.istore i, 2)) (k : VV E nL (pc + 2) L2 S M) : VV E nL pc L (.int x :: S) M := fun H locs ls hP hS hl => lv_istore Z.1 Z.2.1 hd hl hn (zL_f1 (E := E) hL) (fun ls2 hl2 => k H locs ls2 hP hS hl2)
theorem V_aload_n {E : zEv} {cc : ByteArray} {nL pc fr lo : Nat} {own : String} {L : List (Nat × Value)} {S : List Value} {M : zM} {f : Fin 4} {i : Nat} {x : Nat} (q : Nat) (Z : zC E cc nL own fr lo) (hL : L[q]? = some (i, .ref x)) (hi : (f : Nat) = i) (hd : decode cc pc = .ok (.aload_n f, 1)) (k : VV E nL (pc + 1) L (.ref x :: S) M) : VV E nL pc L S M := fun H locs ls hP hS hl => lv_aload_n Z.1 Z.2.1 hd hi (zL_at hl hL) (k H locs ls hP hS hl)
theorem V_aload {E : zEv} {cc : ByteArray} {nL pc fr lo : Nat} {own : String} {L : List (Nat × Value)} {S : List Value} {M : zM} {i : Nat} {x : Nat} (q : Nat) (Z : zC E cc nL own fr lo) (hL : L[q]? = some (i, .ref x)) (hd : decode cc pc = .ok (.aload i, 2)) (k : VV E nL (pc + 2) L (.ref x :: S) M) : VV E nL pc L S M := fun H locs ls hP hS hl => lv_aload Z.1 Z.2.1 hd (zL_at hl hL) (k H locs ls hP hS hl)
theorem V_astore_n {E : zEv} {cc : ByteArray} {nL pc fr lo : Nat} {own : String} {L : List (Nat × Value)} {S : List Value} {M : zM} {f : Fin 4} {i : Nat} {x : Nat} (L2 : List (Nat × Value)) (Z : zC E cc nL own fr lo) (hn : i < nL) (hL : (i, Value.ref x) :: L.filter (fun q => !(q.1 == i) && !(q.1 + 1 == i && q.2.category == 2)) = L2) (hi : (f : Nat) = i) (hd : decode cc pc = .ok (.astore_n f, 1)) (k : VV E nL (pc + 1) L2 S M) : VV E nL pc L (.ref x :: S) M := fun H locs ls hP hS hl => lv_astore_n Z.1 Z.2.1 hd hi hl hn (zL_f1 (E := E) hL) (fun ls2 hl2 => k H locs ls2 hP hS hl2)
theorem V_astore {E : zEv} {cc : ByteArray} {nL pc fr lo : Nat} {own : String} {L : List (Nat × Value)} {S : List Value} {M : zM} {i : Nat} {x : Nat} (L2 : List (Nat × Value)) (Z : zC E cc nL own fr lo) (hn : i < nL) (hL : (i, Value.ref x) :: L.filter (fun q => !(q.1 == i) && !(q.1 + 1 == i && q.2.category == 2)) = L2) (hd : decode cc pc = .ok (.astore i, 2)) (k : VV E nL (pc + 2) L2 S M) : VV E nL pc L (.ref x :: S) M := fun H locs ls hP hS hl => lv_astore Z.1 Z.2.1 hd hl hn (zL_f1 (E := E) hL) (fun ls2 hl2 => k H locs ls2 hP hS hl2)
theorem V_lload_n {E : zEv} {cc : ByteArray} {nL pc fr lo : Nat} {own : String} {L : List (Nat × Value)} {S : List Value} {M : zM} {f : Fin 4} {i : Nat} {x : Int64} (q : Nat) (Z : zC E cc nL own fr lo) (hL : L[q]? = some (i, .long x)) (hi : (f : Nat) = i) (hd : decode cc pc = .ok (.lload_n f, 1)) (k : VV E nL (pc + 1) L (.long x :: S) M) : VV E nL pc L S M := fun H locs ls hP hS hl => lv_lload_n Z.1 Z.2.1 hd hi (zL_at hl hL) (k H locs ls hP hS hl)
theorem V_lload {E : zEv} {cc : ByteArray} {nL pc fr lo : Nat} {own : String} {L : List (Nat × Value)} {S : List Value} {M : zM} {i : Nat} {x : Int64} (q : Nat) (Z : zC E cc nL own fr lo) (hL : L[q]? = some (i, .long x)) (hd : decode cc pc = .ok (.lload i, 2)) (k : VV E nL (pc + 2) L (.long x :: S) M) : VV E nL pc L S M := fun H locs ls hP hS hl => lv_lload Z.1 Z.2.1 hd (zL_at hl hL) (k H locs ls hP hS hl)
theorem V_lstore_n {E : zEv} {cc : ByteArray} {nL pc fr lo : Nat} {own : String} {L : List (Nat × Value)} {S : List Value} {M : zM} {f : Fin 4} {i : Nat} {x : Int64} (L2 : List (Nat × Value)) (Z : zC E cc nL own fr lo) (hn : i + 1 < nL) (hL : (i, Value.long x) :: L.filter (fun q => !(q.1 == i) && (!(q.1 == i + 1) && !(q.1 + 1 == i && q.2.category == 2))) = L2) (hi : (f : Nat) = i) (hd : decode cc pc = .ok (.lstore_n f, 1)) (k : VV E nL (pc + 1) L2 S M) : VV E nL pc L (.long x :: S) M := fun H locs ls hP hS hl => lv_lstore_n Z.1 Z.2.1 hd hi hl hn (zL_f2 (E := E) hL) (fun ls2 hl2 => k H locs ls2 hP hS hl2)
theorem V_lstore {E : zEv} {cc : ByteArray} {nL pc fr lo : Nat} {own : String} {L : List (Nat × Value)} {S : List Value} {M : zM} {i : Nat} {x : Int64} (L2 : List (Nat × Value)) (Z : zC E cc nL own fr lo) (hn : i + 1 < nL) (hL : (i, Value.long x) :: L.filter (fun q => !(q.1 == i) && (!(q.1 == i + 1) && !(q.1 + 1 == i && q.2.category == 2))) = L2) (hd : decode cc pc = .ok (.lstore i, 2)) (k : VV E nL (pc + 2) L2 S M) : VV E nL pc L (.long x :: S) M := fun H locs ls hP hS hl => lv_lstore Z.1 Z.2.1 hd hl hn (zL_f2 (E := E) hL) (fun ls2 hl2 => k H locs ls2 hP hS hl2)
theorem V_iinc {E : zEv} {cc : ByteArray} {nL pc fr lo : Nat} {own : String} {L : List (Nat × Value)} {S : List Value} {M : zM} {i : Nat} {n : Int} {x : Int32} (q : Nat) (v : Int32) (L2 : List (Nat × Value)) (Z : zC E cc nL own fr lo) (hn : i < nL) (hq : L[q]? = some (i, .int x)) (hv : x + Int32.ofInt n = v) (hL : (i, Value.int v) :: L.filter (fun q => !(q.1 == i) && !(q.1 + 1 == i && q.2.category == 2)) = L2) (hd : decode cc pc = .ok (.iinc i n, 3)) (k : VV E nL (pc + 3) L2 S M) : VV E nL pc L S M := fun H locs ls hP hS hl => lv_iinc (k := q) Z.1 Z.2.1 hd hl (by unfold zL; rw [List.getElem?_map, hq]; rfl) hv hn (zL_f1 (E := E) hL) (fun ls2 hl2 => k H locs ls2 hP hS hl2)
theorem V_dup {E : zEv} {cc : ByteArray} {nL pc fr lo : Nat} {own : String} {L : List (Nat × Value)} {S : List Value} {M : zM} {v : Value} (hc : v.category = 1) (Z : zC E cc nL own fr lo) (hd : decode cc pc = .ok (.dup, 1)) (k : VV E nL (pc + 1) L (v :: v :: S) M) : VV E nL pc L (v :: S) M := fun H locs ls hP hS hl => lv_dup Z.1 Z.2.1 hd ((cv_cat _ _).trans hc) (k H locs ls hP hS hl)
theorem V_pop {E : zEv} {cc : ByteArray} {nL pc fr lo : Nat} {own : String} {L : List (Nat × Value)} {S : List Value} {M : zM} {v : Value} (hc : v.category = 1) (Z : zC E cc nL own fr lo) (hd : decode cc pc = .ok (.pop, 1)) (k : VV E nL (pc + 1) L (S) M) : VV E nL pc L (v :: S) M := fun H locs ls hP hS hl => lv_pop Z.1 Z.2.1 hd ((cv_cat _ _).trans hc) (k H locs ls hP hS hl)
section ZD2
variable {p : Program} {l : Launch} {e : Env} {R : Room} {s : State} {m : MethodId} {args : Array Value} {below : List Frame} {meth : Method} {c : Code} {H : Heap} {locs : List Loc} {cells slots : Nat} {Q : State → Prop} {cc : ByteArray} {pc : Nat} {ls : Array Slot} {rest : List Value}
theorem z_dup2 (hexec : p.tables.exec = Jvm.exec) (hb : c.code = cc) {va vb : Value} (hdg : decode cc pc = .ok (.dup2, 1)) (hva : va.category = 1) (hvb : vb.category = 1)
    (k : W p l e R s m args below meth c H locs cells slots Q (F0 m (pc + 1) ls (va :: vb :: va :: vb :: rest))) : W p l e R s m args below meth c H locs cells slots Q (F0 m pc ls (va :: vb :: rest)) := by
  intro T hT X
  obtain ⟨t, a, b⟩ := k T hT X
  refine ⟨t, ?_, b⟩
  jvm_step X.here [X.here.top, hexec, hb, hdg, hva, hvb]
  exact a
end ZD2
theorem V_dup2 {E : zEv} {cc : ByteArray} {nL pc fr lo : Nat} {own : String} {L : List (Nat × Value)} {S : List Value} {M : zM} {v w : Value} (hc : v.category = 1) (hc2 : w.category = 1) (Z : zC E cc nL own fr lo) (hd : decode cc pc = .ok (.dup2, 1)) (k : VV E nL (pc + 1) L (v :: w :: v :: w :: S) M) : VV E nL pc L (v :: w :: S) M := fun H locs ls hP hS hl => z_dup2 Z.1 Z.2.1 hd ((cv_cat _ _).trans hc) ((cv_cat _ _).trans hc2) (k H locs ls hP hS hl)
theorem V_goto {E : zEv} {cc : ByteArray} {nL pc fr lo : Nat} {own : String} {L : List (Nat × Value)} {S : List Value} {M : zM} {off : Int} (tgt : Nat) (Z : zC E cc nL own fr lo) (ht : (pc : Int) + off = (tgt : Int)) (hd : decode cc pc = .ok (.goto off, 3)) (k : VV E nL tgt L S M) : VV E nL pc L S M := fun H locs ls hP hS hl => lv_goto Z.1 Z.2.1 hd ht (k H locs ls hP hS hl)
theorem V_if_eq {E : zEv} {cc : ByteArray} {nL pc fr lo : Nat} {own : String} {L : List (Nat × Value)} {S : List Value} {M : zM} {x : Int32} {off : Int} (tgt : Nat) (Z : zC E cc nL own fr lo) (ht : (pc : Int) + off = (tgt : Int)) (hd : decode cc pc = .ok (.ifCond .eq off, 3)) (kt : x = 0 → VV E nL tgt L S M) (kf : ¬ x = 0 → VV E nL (pc + 3) L S M) : VV E nL pc L (.int x :: S) M := fun H locs ls hP hS hl => lv_if_eq Z.1 Z.2.1 hd ht (fun h => kt h H locs ls hP hS hl) (fun h => kf h H locs ls hP hS hl)
theorem V_if_ne {E : zEv} {cc : ByteArray} {nL pc fr lo : Nat} {own : String} {L : List (Nat × Value)} {S : List Value} {M : zM} {x : Int32} {off : Int} (tgt : Nat) (Z : zC E cc nL own fr lo) (ht : (pc : Int) + off = (tgt : Int)) (hd : decode cc pc = .ok (.ifCond .ne off, 3)) (kt : ¬ x = 0 → VV E nL tgt L S M) (kf : x = 0 → VV E nL (pc + 3) L S M) : VV E nL pc L (.int x :: S) M := fun H locs ls hP hS hl => lv_if_ne Z.1 Z.2.1 hd ht (fun h => kt h H locs ls hP hS hl) (fun h => kf h H locs ls hP hS hl)
theorem V_if_lt {E : zEv} {cc : ByteArray} {nL pc fr lo : Nat} {own : String} {L : List (Nat × Value)} {S : List Value} {M : zM} {x : Int32} {off : Int} (tgt : Nat) (Z : zC E cc nL own fr lo) (ht : (pc : Int) + off = (tgt : Int)) (hd : decode cc pc = .ok (.ifCond .lt off, 3)) (kt : x < 0 → VV E nL tgt L S M) (kf : ¬ x < 0 → VV E nL (pc + 3) L S M) : VV E nL pc L (.int x :: S) M := fun H locs ls hP hS hl => lv_if_lt Z.1 Z.2.1 hd ht (fun h => kt h H locs ls hP hS hl) (fun h => kf h H locs ls hP hS hl)
theorem V_if_ge {E : zEv} {cc : ByteArray} {nL pc fr lo : Nat} {own : String} {L : List (Nat × Value)} {S : List Value} {M : zM} {x : Int32} {off : Int} (tgt : Nat) (Z : zC E cc nL own fr lo) (ht : (pc : Int) + off = (tgt : Int)) (hd : decode cc pc = .ok (.ifCond .ge off, 3)) (kt : 0 ≤ x → VV E nL tgt L S M) (kf : ¬ 0 ≤ x → VV E nL (pc + 3) L S M) : VV E nL pc L (.int x :: S) M := fun H locs ls hP hS hl => lv_if_ge Z.1 Z.2.1 hd ht (fun h => kt h H locs ls hP hS hl) (fun h => kf h H locs ls hP hS hl)
theorem V_if_gt {E : zEv} {cc : ByteArray} {nL pc fr lo : Nat} {own : String} {L : List (Nat × Value)} {S : List Value} {M : zM} {x : Int32} {off : Int} (tgt : Nat) (Z : zC E cc nL own fr lo) (ht : (pc : Int) + off = (tgt : Int)) (hd : decode cc pc = .ok (.ifCond .gt off, 3)) (kt : 0 < x → VV E nL tgt L S M) (kf : ¬ 0 < x → VV E nL (pc + 3) L S M) : VV E nL pc L (.int x :: S) M := fun H locs ls hP hS hl => lv_if_gt Z.1 Z.2.1 hd ht (fun h => kt h H locs ls hP hS hl) (fun h => kf h H locs ls hP hS hl)
theorem V_if_le {E : zEv} {cc : ByteArray} {nL pc fr lo : Nat} {own : String} {L : List (Nat × Value)} {S : List Value} {M : zM} {x : Int32} {off : Int} (tgt : Nat) (Z : zC E cc nL own fr lo) (ht : (pc : Int) + off = (tgt : Int)) (hd : decode cc pc = .ok (.ifCond .le off, 3)) (kt : x ≤ 0 → VV E nL tgt L S M) (kf : ¬ x ≤ 0 → VV E nL (pc + 3) L S M) : VV E nL pc L (.int x :: S) M := fun H locs ls hP hS hl => lv_if_le Z.1 Z.2.1 hd ht (fun h => kt h H locs ls hP hS hl) (fun h => kf h H locs ls hP hS hl)
theorem V_icmp_eq {E : zEv} {cc : ByteArray} {nL pc fr lo : Nat} {own : String} {L : List (Nat × Value)} {S : List Value} {M : zM} {x y : Int32} {off : Int} (tgt : Nat) (Z : zC E cc nL own fr lo) (ht : (pc : Int) + off = (tgt : Int)) (hd : decode cc pc = .ok (.if_icmp .eq off, 3)) (kt : x = y → VV E nL tgt L S M) (kf : ¬ x = y → VV E nL (pc + 3) L S M) : VV E nL pc L (.int y :: .int x :: S) M := fun H locs ls hP hS hl => lv_icmp_eq Z.1 Z.2.1 hd ht (fun h => kt h H locs ls hP hS hl) (fun h => kf h H locs ls hP hS hl)
theorem V_icmp_ne {E : zEv} {cc : ByteArray} {nL pc fr lo : Nat} {own : String} {L : List (Nat × Value)} {S : List Value} {M : zM} {x y : Int32} {off : Int} (tgt : Nat) (Z : zC E cc nL own fr lo) (ht : (pc : Int) + off = (tgt : Int)) (hd : decode cc pc = .ok (.if_icmp .ne off, 3)) (kt : ¬ x = y → VV E nL tgt L S M) (kf : x = y → VV E nL (pc + 3) L S M) : VV E nL pc L (.int y :: .int x :: S) M := fun H locs ls hP hS hl => lv_icmp_ne Z.1 Z.2.1 hd ht (fun h => kt h H locs ls hP hS hl) (fun h => kf h H locs ls hP hS hl)
theorem V_icmp_lt {E : zEv} {cc : ByteArray} {nL pc fr lo : Nat} {own : String} {L : List (Nat × Value)} {S : List Value} {M : zM} {x y : Int32} {off : Int} (tgt : Nat) (Z : zC E cc nL own fr lo) (ht : (pc : Int) + off = (tgt : Int)) (hd : decode cc pc = .ok (.if_icmp .lt off, 3)) (kt : x < y → VV E nL tgt L S M) (kf : ¬ x < y → VV E nL (pc + 3) L S M) : VV E nL pc L (.int y :: .int x :: S) M := fun H locs ls hP hS hl => lv_icmp_lt Z.1 Z.2.1 hd ht (fun h => kt h H locs ls hP hS hl) (fun h => kf h H locs ls hP hS hl)
theorem V_icmp_ge {E : zEv} {cc : ByteArray} {nL pc fr lo : Nat} {own : String} {L : List (Nat × Value)} {S : List Value} {M : zM} {x y : Int32} {off : Int} (tgt : Nat) (Z : zC E cc nL own fr lo) (ht : (pc : Int) + off = (tgt : Int)) (hd : decode cc pc = .ok (.if_icmp .ge off, 3)) (kt : y ≤ x → VV E nL tgt L S M) (kf : ¬ y ≤ x → VV E nL (pc + 3) L S M) : VV E nL pc L (.int y :: .int x :: S) M := fun H locs ls hP hS hl => lv_icmp_ge Z.1 Z.2.1 hd ht (fun h => kt h H locs ls hP hS hl) (fun h => kf h H locs ls hP hS hl)
theorem V_icmp_gt {E : zEv} {cc : ByteArray} {nL pc fr lo : Nat} {own : String} {L : List (Nat × Value)} {S : List Value} {M : zM} {x y : Int32} {off : Int} (tgt : Nat) (Z : zC E cc nL own fr lo) (ht : (pc : Int) + off = (tgt : Int)) (hd : decode cc pc = .ok (.if_icmp .gt off, 3)) (kt : y < x → VV E nL tgt L S M) (kf : ¬ y < x → VV E nL (pc + 3) L S M) : VV E nL pc L (.int y :: .int x :: S) M := fun H locs ls hP hS hl => lv_icmp_gt Z.1 Z.2.1 hd ht (fun h => kt h H locs ls hP hS hl) (fun h => kf h H locs ls hP hS hl)
theorem V_icmp_le {E : zEv} {cc : ByteArray} {nL pc fr lo : Nat} {own : String} {L : List (Nat × Value)} {S : List Value} {M : zM} {x y : Int32} {off : Int} (tgt : Nat) (Z : zC E cc nL own fr lo) (ht : (pc : Int) + off = (tgt : Int)) (hd : decode cc pc = .ok (.if_icmp .le off, 3)) (kt : x ≤ y → VV E nL tgt L S M) (kf : ¬ x ≤ y → VV E nL (pc + 3) L S M) : VV E nL pc L (.int y :: .int x :: S) M := fun H locs ls hP hS hl => lv_icmp_le Z.1 Z.2.1 hd ht (fun h => kt h H locs ls hP hS hl) (fun h => kf h H locs ls hP hS hl)
theorem V_tabIn {E : zEv} {cc : ByteArray} {nL pc fr lo : Nat} {own : String} {L : List (Nat × Value)} {S : List Value} {M : zM} {x : Int32} {dflt lo2 hi off : Int} {offs : Array Int} {len : Nat} (tgt : Nat) (Z : zC E cc nL own fr lo) (hd : decode cc pc = .ok (.tableswitch dflt lo2 hi offs, len)) (h : (decide (¬ x.toInt < lo2) && decide (¬ hi < x.toInt) && (offs[(x.toInt - lo2).toNat]? == some off) && decide ((pc : Int) + off = (tgt : Int))) = true) (k : VV E nL tgt L S M) : VV E nL pc L (.int x :: S) M := by
  simp only [Bool.and_eq_true, decide_eq_true_eq, beq_iff_eq] at h
  exact fun H locs ls hP hS hl => lv_tableIn Z.1 Z.2.1 hd h.1.1.1 h.1.1.2 h.1.2 h.2 (k H locs ls hP hS hl)
theorem V_tabOut {E : zEv} {cc : ByteArray} {nL pc fr lo : Nat} {own : String} {L : List (Nat × Value)} {S : List Value} {M : zM} {x : Int32} {dflt lo2 hi : Int} {offs : Array Int} {len : Nat} (tgt : Nat) (Z : zC E cc nL own fr lo) (hd : decode cc pc = .ok (.tableswitch dflt lo2 hi offs, len)) (h : x.toInt < lo2 ∨ hi < x.toInt) (ht : (pc : Int) + dflt = (tgt : Int)) (k : VV E nL tgt L S M) : VV E nL pc L (.int x :: S) M := fun H locs ls hP hS hl => lv_tableOut Z.1 Z.2.1 hd h ht (k H locs ls hP hS hl)
theorem V_look {E : zEv} {cc : ByteArray} {nL pc fr lo : Nat} {own : String} {L : List (Nat × Value)} {S : List Value} {M : zM} {x : Int32} {dflt off : Int} {ps : Array (Int × Int)} {len : Nat} (tgt : Nat) (Z : zC E cc nL own fr lo) (hd : decode cc pc = .ok (.lookupswitch dflt ps, len)) (hp : (ps.toList.zip (ps.toList.drop 1)).all (fun (a, next) => a.1 < next.1) = true) (ho : Op.lookupswitch.offset ps.toList dflt x.toInt = off) (ht : (pc : Int) + off = (tgt : Int)) (k : VV E nL tgt L S M) : VV E nL pc L (.int x :: S) M := fun H locs ls hP hS hl => lv_lookup Z.1 Z.2.1 hd hp ho ht (k H locs ls hP hS hl)
end
section
/-! THE ROWS OF THE HEAP: fields, arrays, calls, returns. -/
/-- a class of the worlds: its place, its fields' words, their types, that their names are apart -/
def zCls (ci : Nat) (C : String) (T : u_T) (N : Nat) (ty : Nat → FieldType) : Prop := zCl[ci]? = some (C, T, N) ∧ (∀ w ∈ u_ws C T N, w ∈ zTB) ∧ (∀ k, k < N → parseFieldDescriptor (T k).2.2.1 = some (ty k)) ∧ ∀ a, a < N → ∀ b, b < N → a ≠ b → (T a).2.1 ≠ (T b).2.1
theorem zc0 : zCls 0 RX0 TX0 15 tyX0 := ⟨rfl, by decide +kernel, tyX0_ok, nmX0⟩
theorem zc1 : zCls 1 RX2 TX2 5 tyX2 := ⟨rfl, by decide +kernel, tyX2_ok, nmX2⟩
theorem zc2 : zCls 2 RX3 TX3 3 tyX3 := ⟨rfl, by decide +kernel, tyX3_ok, nmX3⟩
theorem zc3 : zCls 3 RX4 TX4 2 tyX4 := ⟨rfl, by decide +kernel, tyX4_ok, nmX4⟩
theorem zc4 : zCls 4 RX5 TX5 8 tyX5 := ⟨rfl, by decide +kernel, tyX5_ok, nmX5⟩
theorem zc5 : zCls 5 RX6 TX6 22 tyX6 := ⟨rfl, by decide +kernel, tyX6_ok, nmX6⟩
theorem zE_obj {G : zG} {ad : Nat → Nat} {M : zM} {k ci : Nat} {fl : List (Option Nat)} (hs : sh k = .inr (.inl (ci, fl))) : zE G ad M k = .inr (ci, zfl ad M k 0 fl) := by unfold zE; rw [hs]
theorem zE_arr {G : zG} {ad : Nat → Nat} {M : zM} {k n : Nat} (hs : sh k = .inl n) : zE G ad M k = .inl (G.2.1, n, .inl (M k)) := by unfold zE; rw [hs]
theorem zE_ref {G : zG} {ad : Nat → Nat} {M : zM} {k : Nat} {rs : Nat × List Nat} (hs : sh k = .inr (.inr rs)) : zE G ad M k = .inl (G.2.2 rs.1, rs.2.length, .inr (.inr (.inr (.inr fun j => (rs.2[j]?).map ad)))) := by unfold zE; rw [hs]
section ZH
variable {E : zEv} {cc : ByteArray} {nL pc fr lo : Nat} {own : String} {L : List (Nat × Value)} {S : List Value} {M : zM}
/-- a field that is read: its value as the world has it -/
theorem V_get {k j ci N index : Nat} {fl : List (Option Nat)} {C n d : String} {T : u_T} {ty : Nat → FieldType} {o : Option Nat} {v : Value} (Z : zC E cc nL own fr lo) (hc : zCls ci C T N ty) (hk : k < NC) (hs : sh k = .inr (.inl (ci, fl))) (hj : j < N) (hf : fl[j]? = some o) (hT : (T j).1 = C ∧ (T j).2.1 = n ∧ (T j).2.2.1 = d) (hw : Cond.fieldLink own index C n d ∈ zTB) (hv : cv (ead E) v = zfld (ead E) M k j o) (hd : decode cc pc = .ok (.getfield index, 3))
    (kk : VV E nL (pc + 3) L (v :: S) M) : VV E nL pc L (.ref k :: S) M := fun H locs ls hP hS hl => by
  obtain ⟨hx, hb, -, hown, hts, hK, -⟩ := Z
  obtain ⟨h1, rfl, rfl⟩ := hT
  have hz := zW_at (G := eG E) (ad := ead E) (M := M) hk
  rw [zE_obj hs] at hz
  refine va_get hx hb hts hc.2.1 hown hK hP k hz hc.1 j hj (hts _ hw) (fun x hx => by rw [← h1]; exact hx) (v := cv (ead E) v) ?_ hd (kk H locs ls hP hS hl)
  rw [zfl_at, hf, Nat.zero_add, hv]
  rfl
theorem V_getI {k ci N index : Nat} (j : Nat) {fl : List (Option Nat)} {C n d : String} {T : u_T} {ty : Nat → FieldType} (Z : zC E cc nL own fr lo) (hc : zCls ci C T N ty) (hk : k < NC) (hs : sh k = .inr (.inl (ci, fl))) (hj : j < N) (hf : fl[j]? = some none) (hT : (T j).1 = C ∧ (T j).2.1 = n ∧ (T j).2.2.1 = d) (hw : Cond.fieldLink own index C n d ∈ zTB) (hd : decode cc pc = .ok (.getfield index, 3))
    (kk : VV E nL (pc + 3) L (.int (M k j) :: S) M) : VV E nL pc L (.ref k :: S) M := V_get Z hc hk hs hj hf hT hw rfl hd kk
theorem V_getR {k ci N index : Nat} (j r : Nat) {fl : List (Option Nat)} {C n d : String} {T : u_T} {ty : Nat → FieldType} (Z : zC E cc nL own fr lo) (hc : zCls ci C T N ty) (hk : k < NC) (hs : sh k = .inr (.inl (ci, fl))) (hj : j < N) (hf : fl[j]? = some (some r)) (hr : r ≠ 900) (hT : (T j).1 = C ∧ (T j).2.1 = n ∧ (T j).2.2.1 = d) (hw : Cond.fieldLink own index C n d ∈ zTB) (hd : decode cc pc = .ok (.getfield index, 3))
    (kk : VV E nL (pc + 3) L (.ref r :: S) M) : VV E nL pc L (.ref k :: S) M := V_get Z hc hk hs hj hf hT hw (by simp [cv, zfld, hr]) hd kk
/-- the reader's tape, once it is there -/
theorem V_getD {k ci N index : Nat} (j : Nat) {fl : List (Option Nat)} {C n d : String} {T : u_T} {ty : Nat → FieldType} (Z : zC E cc nL own fr lo) (hc : zCls ci C T N ty) (hk : k < NC) (hs : sh k = .inr (.inl (ci, fl))) (hj : j < N) (hf : fl[j]? = some (some 900)) (h0 : ¬ M k j = 0) (hT : (T j).1 = C ∧ (T j).2.1 = n ∧ (T j).2.2.1 = d) (hw : Cond.fieldLink own index C n d ∈ zTB) (hd : decode cc pc = .ok (.getfield index, 3))
    (kk : VV E nL (pc + 3) L (.ref 34 :: S) M) : VV E nL pc L (.ref k :: S) M := V_get Z hc hk hs hj hf hT hw (by simp [cv, zfld, h0]) hd kk
/-- a field that is written -/
theorem V_put {k ci N index : Nat} (j : Nat) {x : Int32} {fl : List (Option Nat)} {C n d : String} {T : u_T} {ty : Nat → FieldType} {v : Value} (Z : zC E cc nL own fr lo) (hc : zCls ci C T N ty) (hk : k < NC) (hs : sh k = .inr (.inl (ci, fl))) (hj : j < N) (hjl : j < fl.length) (hset : (zfl (ead E) M k 0 fl).set j (cv (ead E) v) = zfl (ead E) (zU M k j x) k 0 fl) (hT : (T j).1 = C ∧ (T j).2.1 = n ∧ (T j).2.2.1 = d) (hfin : (T j).2.2.2 = false) (hn : narrow (ty j) (cv (ead E) v) = cv (ead E) v) (hfit : fits (ty j) (cv (ead E) v) = true) (hw : Cond.fieldLink own index C n d ∈ zTB) (hd : decode cc pc = .ok (.putfield index, 3))
    (kk : VV E nL (pc + 3) L S (zU M k j x)) : VV E nL pc L (v :: .ref k :: S) M := fun H locs ls hP hS hl => by
  obtain ⟨hx, hb, -, hown, hts, hK, hinj, -⟩ := Z
  obtain ⟨h1, rfl, rfl⟩ := hT
  have hz := zW_at (G := eG E) (ad := ead E) (M := M) hk
  rw [zE_obj hs] at hz
  refine va_put hx hb hts hc.2.1 ty hc.2.2.1 hc.2.2.2 hown hK hP (zD (sz := (es E).heap.size) hinj) hS k hz hc.1 j hj (hts _ hw) (fun x hx => by rw [← h1]; exact hx) hfin (ty := ty j) (v := cv (ead E) v) (hc.2.2.1 j hj) hn hfit (by rw [zfl_len]; exact hjl) hd (fun H1 locs1 hP1 hD1 hS1 => ?_)
  rw [hset, zW_set (M' := zU M k j x) hk (zE_obj hs).symm (fun q hq => zU_off hq)] at hP1
  exact kk H1 locs1 ls hP1 hS1 hl
theorem V_putI {k ci N index : Nat} (j : Nat) {x : Int32} {fl : List (Option Nat)} {C n d : String} {T : u_T} {ty : Nat → FieldType} (Z : zC E cc nL own fr lo) (hc : zCls ci C T N ty) (hk : k < NC) (hs : sh k = .inr (.inl (ci, fl))) (hj : j < N) (hf : fl[j]? = some none) (hT : (T j).1 = C ∧ (T j).2.1 = n ∧ (T j).2.2.1 = d) (hfin : (T j).2.2.2 = false) (hty : ty j = .int) (hw : Cond.fieldLink own index C n d ∈ zTB) (hd : decode cc pc = .ok (.putfield index, 3))
    (kk : VV E nL (pc + 3) L S (zU M k j x)) : VV E nL pc L (.int x :: .ref k :: S) M := V_put j Z hc hk hs hj (List.getElem?_eq_some_iff.mp hf).1 (zfl_set hf) hT hfin (by rw [hty]; rfl) (by rw [hty]; rfl) hw hd kk
theorem V_putZ {k ci N index : Nat} (j : Nat) {x : Int32} {fl : List (Option Nat)} {C n d : String} {T : u_T} {ty : Nat → FieldType} (Z : zC E cc nL own fr lo) (hc : zCls ci C T N ty) (hk : k < NC) (hs : sh k = .inr (.inl (ci, fl))) (hj : j < N) (hf : fl[j]? = some none) (hT : (T j).1 = C ∧ (T j).2.1 = n ∧ (T j).2.2.1 = d) (hfin : (T j).2.2.2 = false) (hty : ty j = .boolean) (hb : zbo x = some x) (hw : Cond.fieldLink own index C n d ∈ zTB) (hd : decode cc pc = .ok (.putfield index, 3))
    (kk : VV E nL (pc + 3) L S (zU M k j x)) : VV E nL pc L (.int x :: .ref k :: S) M := by
  have h01 : x = 0 ∨ x = 1 := by
    unfold zbo at hb
    split at hb
    · assumption
    · cases hb
  exact V_put j Z hc hk hs hj (List.getElem?_eq_some_iff.mp hf).1 (zfl_set hf) hT hfin (by rw [hty]; rcases h01 with rfl | rfl <;> rfl) (by rw [hty]; rcases h01 with rfl | rfl <;> rfl) hw hd kk
theorem V_putD {k ci N index : Nat} (j : Nat) {fl : List (Option Nat)} {C n d : String} {T : u_T} {ty : Nat → FieldType} (Z : zC E cc nL own fr lo) (hc : zCls ci C T N ty) (hk : k < NC) (hs : sh k = .inr (.inl (ci, fl))) (hj : j < N) (hf : fl[j]? = some (some 900)) (hT : (T j).1 = C ∧ (T j).2.1 = n ∧ (T j).2.2.1 = d) (hfin : (T j).2.2.2 = false) (hty : ty j = .object "NameRail$Tape") (hw : Cond.fieldLink own index C n d ∈ zTB) (hd : decode cc pc = .ok (.putfield index, 3))
    (kk : VV E nL (pc + 3) L S (zU M k j 1)) : VV E nL pc L (.ref 34 :: .ref k :: S) M := V_put j Z hc hk hs hj (List.getElem?_eq_some_iff.mp hf).1 (zfl_setR hf) hT hfin (by rw [hty]; rfl) (by rw [hty]; rfl) hw hd kk
theorem zrd_spec {k : Nat} {i v : Int32} (h : zrd M k i = some v) : ∃ n, sh k = .inl n ∧ vp_in i n ∧ v = M k i.toNatClampNeg := by
  unfold zrd at h
  split at h
  · rename_i n hn
    split at h
    · cases h
    · cases h; exact ⟨n, hn, by assumption, rfl⟩
  · cases h
theorem zwr_spec {M' : zM} {k : Nat} {i v : Int32} (h : zwr M k i v = some M') : ∃ n, sh k = .inl n ∧ vp_in i n ∧ M' = zU M k i.toNatClampNeg v := by
  unfold zwr at h
  split at h
  · rename_i n hn
    split at h
    · cases h
    · cases h; exact ⟨n, hn, by assumption, rfl⟩
  · cases h
theorem zrr_spec {k r : Nat} {i : Int32} (h : zrr k i = some r) : ∃ rs, sh k = .inr (.inr rs) ∧ vp_in i rs.2.length ∧ rs.2[i.toNatClampNeg]? = some r := by
  unfold zrr at h
  split at h
  · rename_i rs hn
    split at h
    · cases h
    · exact ⟨rs, hn, by assumption, h⟩
  · cases h
theorem sh_lt_arr {k n : Nat} (h : sh k = .inl n) (hn : 0 < n) : k < NC := by
  refine Nat.not_le.mp fun hk => ?_
  have : sh k = .inl 0 := by
    unfold sh
    split <;> first | (exfalso; revert hk; decide) | rfl
  rw [this] at h
  cases h
  exact absurd hn (Nat.lt_irrefl 0)
theorem vp_in_pos {i : Int32} {n : Nat} (h : vp_in i n) : 0 < n := by
  rcases Nat.eq_zero_or_pos n with rfl | h0
  · exact absurd (Or.inr (Nat.zero_le _)) h
  · exact h0
theorem V_iald {k : Nat} {i v : Int32} (Z : zC E cc nL own fr lo) (hv : zrd M k i = some v) (hd : decode cc pc = .ok (.iaload, 1)) (kk : VV E nL (pc + 1) L (.int v :: S) M) : VV E nL pc L (.int i :: .ref k :: S) M := fun H locs ls hP hS hl => by
  obtain ⟨n, hs, hin, rfl⟩ := zrd_spec hv
  obtain ⟨hx, hb, -, hown, hts, hK, hinj, -⟩ := Z
  have hz := zW_at (G := eG E) (ad := ead E) (M := M) (sh_lt_arr hs (vp_in_pos hin))
  rw [zE_arr hs] at hz
  exact va_iald hx hb hK hP k 0 hz rfl hin hd (kk H locs ls hP hS hl)
theorem V_iast {M' : zM} {k : Nat} {i x : Int32} (Z : zC E cc nL own fr lo) (hv : zwr M k i x = some M') (hd : decode cc pc = .ok (.iastore, 1)) (kk : VV E nL (pc + 1) L S M') : VV E nL pc L (.int x :: .int i :: .ref k :: S) M := fun H locs ls hP hS hl => by
  obtain ⟨n, hs, hin, rfl⟩ := zwr_spec hv
  obtain ⟨hx, hb, -, hown, hts, hK, hinj, -⟩ := Z
  have hk := sh_lt_arr hs (vp_in_pos hin)
  have hz := zW_at (G := eG E) (ad := ead E) (M := M) hk
  rw [zE_arr hs] at hz
  refine va_iast hx hb hK hP (zD (sz := (es E).heap.size) hinj) hS k 0 hz rfl hin hd (fun H1 locs1 hP1 hD1 hS1 => ?_)
  rw [zW_set (M' := zU M k i.toNatClampNeg x) hk (by rw [zE_arr hs, zU_row]) (fun q hq => zU_off hq)] at hP1
  exact kk H1 locs1 ls hP1 hS1 hl
theorem V_aald {k r : Nat} {i : Int32} {C : String} (t : Nat) (Z : zC E cc nL own fr lo) (hv : zrr k i = some r) (hk : k < NC) (hT : ∀ G, (zTy G)[t]? = some (G.2.2 t, .object C)) (ht : ∀ rs, sh k = .inr (.inr rs) → rs.1 = t) (hd : decode cc pc = .ok (.aaload, 1)) (kk : VV E nL (pc + 1) L (.ref r :: S) M) : VV E nL pc L (.int i :: .ref k :: S) M := fun H locs ls hP hS hl => by
  obtain ⟨rs, hs, hin, hr⟩ := zrr_spec hv
  obtain ⟨hx, hb, -, hown, hts, hK, hinj, -⟩ := Z
  have hz := zW_at (G := eG E) (ad := ead E) (M := M) hk
  rw [zE_ref hs, ht rs hs] at hz
  refine va_aldq hx hb hK hP k t hz (hT (eG E)) hin hd ?_
  simp only [hr, Option.map_some]
  exact kk H locs ls hP hS hl
theorem V_alenR {k : Nat} {rs : Nat × List Nat} {C : String} (t : Nat) (v : Int32) (Z : zC E cc nL own fr lo) (hk : k < NC) (hs : sh k = .inr (.inr rs)) (hT : ∀ G, (zTy G)[t]? = some (G.2.2 t, .object C)) (ht : rs.1 = t) (hv : Int32.ofNat rs.2.length = v) (hd : decode cc pc = .ok (.arraylength, 1)) (kk : VV E nL (pc + 1) L (.int v :: S) M) : VV E nL pc L (.ref k :: S) M := fun H locs ls hP hS hl => by
  obtain ⟨hx, hb, -, hown, hts, hK, hinj, -⟩ := Z
  have hz := zW_at (G := eG E) (ad := ead E) (M := M) hk
  rw [zE_ref hs, ht] at hz
  exact va_alen hx hb hK hP k t hz (hT (eG E)) hv hd (kk H locs ls hP hS hl)
end ZH
end
section
/-! CALLS AND RETURNS. -/
/-- how a method ends: with v, and the world at M' -/
def zQc (G : zG) (ad : Nat → Nat) (sz : Nat) (v : Option Value) (M' : zM) : Array Value → State → Outcome → State → Prop := fun _ st oc t => (oc = .returned v ∧ va_P G.1 zCl (zW G ad M') t.heap) ∧ va_F (zA ad sz) st t
/-- how it starts -/
def zPc (G : zG) (ad : Nat → Nat) (sz : Nat) (av : List Value) (M : zM) : Array Value → State → Prop := fun a U => a = (av.map (cv ad)).toArray ∧ U.heap.size = sz ∧ va_P G.1 zCl (zW G ad M) U.heap ∧ va_K G.1 zCl (zTy G) U ∧ zInj ad ∧ zExt ad (zA ad sz) U U.heap
/-- THE CONTRACT: called with av at memory M the method y answers v and leaves M' (fr frames, lo words of locals are enough) -/
def zRuns (y : MethodName) (bytes : ByteArray) (mL : Nat) (ret : Option FieldType) (fr lo : Nat) (av : List Value) (M : zM) (v : Option Value) (M' : zM) : Prop :=
  ∀ (l : Launch) (G : zG) (ad : Nat → Nat) (sz : Nat), Met l y (.code y bytes mL ret :: zTB) ({ frames := fr, cells := 0, slots := 0, locals := lo } : Room) (zPc G ad sz av M) (zQc G ad sz (v.map (cv ad)) M') 0 0 (zA ad sz)
theorem zPc_blind {G : zG} {ad : Nat → Nat} {sz : Nat} {av : List Value} {M : zM} : FrameBlind (zPc G ad sz av M) := fun a U g mk q => ⟨q.1, q.2.1, q.2.2.1, va_K.moved (u := U) (U := U.calling g mk a) (Vm.Alike.refl U.vm) q.2.2.2.1, q.2.2.2.2.1, zExt_same (u := U) (U := U.calling g mk a) rfl q.2.2.2.2.2⟩
/-- how a run ends well -/
def zEnd (E : zEv) (ret : Option FieldType) (v : Option Value) (M' : zM) : Prop :=
  (eme E).sig.returnType = ret ∧ (eme E).locks = false ∧ eQ E = MQ (ebl E) (zQc (eG E) (ead E) (es E).heap.size (v.map (cv (ead E))) M') (ea E) (es E) (ecl E) (esl E) (eA E)
theorem zL_args (ad : Nat → Nat) : ∀ (i : Nat) (av : List Value), lv_args i (av.map (cv ad)) = (lv_args i av).map fun q => (q.1, cv ad q.2) := by
  intro i av
  induction av generalizing i with
  | nil => rfl
  | cons v vs ih => simp only [List.map_cons, lv_args, cv_cat, ih]
theorem zSl_len (ad : Nat → Nat) (av : List Value) : (lg_sl (av.map (cv ad))).length = (lg_sl av).length := by
  induction av with
  | nil => rfl
  | cons v vs ih =>
    have h1 : lg_sl ((v :: vs).map (cv ad)) = (if (cv ad v).category = 2 then [Slot.val (cv ad v), .second] else [Slot.val (cv ad v)]) ++ lg_sl (vs.map (cv ad)) := rfl
    have h2 : lg_sl (v :: vs) = (if v.category = 2 then [Slot.val v, .second] else [Slot.val v]) ++ lg_sl vs := rfl
    rw [h1, h2, List.length_append, List.length_append, ih, cv_cat]
    split <;> rfl
theorem zRuns_of {y : MethodName} {bytes : ByteArray} {mL : Nat} {ret : Option FieldType} {fr lo : Nat} {av : List Value} {M : zM} {v : Option Value} {M' : zM} (hy : plainName y.cls = true) (hlen : (lg_sl av).length ≤ mL) (body : ∀ E : zEv, zC E bytes mL y.cls fr lo → zEnd E ret v M' → VV E mL 0 (lv_args 0 av) [] M) : zRuns y bytes mL ret fr lo av M v M' := by
  intro l G ad sz
  refine Met.ofW (cc := bytes) (maxL := mL) (ret := ret) hy rfl ?_
  intro p e s m args below meth c s₁ B hml hv
  obtain ⟨rfl, hsz, hP, hK, hinj, hX⟩ := hv
  have hts : ∀ w ∈ zTB, w.before ((av.map (cv ad)).toArray) s = true := fun w hw => atoms_spec (ws := .code y bytes mL ret :: zTB) B.pre w (List.mem_cons_of_mem _ hw)
  have hown : s.vm.findClass y.cls = some m.cls := findClass_of_methodNamed B.named
  subst hsz
  have hb := body (p, l, e, ({ frames := fr, cells := 0, slots := 0, locals := lo } : Room), s, m, (av.map (cv ad)).toArray, below, meth, c, MQ below (zQc G ad s.heap.size (v.map (cv ad)) M') (av.map (cv ad)).toArray s 0 0 (zA ad s.heap.size), G, ad, 0, 0)
    ⟨B.exec, B.bytes, hml, hown, hts, hK, hinj, hX, ⟨Nat.le_refl _, Nat.le_refl _⟩, Nat.le_refl _, Nat.le_refl _⟩ ⟨B.returns, B.notSynchronized, rfl⟩
  have hl := lv_entry (av.map (cv ad)) (n := mL) (by rw [zSl_len]; exact hlen)
  rw [lg_entry_eq]
  rw [zL_args] at hl
  exact hb s.heap [] _ hP va_S.rf hl
section ZR
variable {E : zEv} {cc : ByteArray} {nL pc fr lo : Nat} {own : String} {L : List (Nat × Value)} {S : List Value} {M : zM}
theorem V_iret {x : Int32} (Z : zC E cc nL own fr lo) (hE : zEnd E (some .int) (some (.int x)) M) (hd : decode cc pc = .ok (.ireturn, 1)) : VV E nL pc L [.int x] M := fun H locs ls hP hS hl => by
  obtain ⟨hr, hlk, hq⟩ := hE
  rw [hq]
  exact W.iret Z.1 Z.2.1 hr (fun t ht hW => ⟨⟨rfl, by rw [ht]; exact hP⟩, hS.F ht⟩) hS.2.2 hd (hlocks := hlk)
theorem V_zret {x : Int32} (Z : zC E cc nL own fr lo) (h : zbo x = some x) (hE : zEnd E (some .boolean) (some (.int x)) M) (hd : decode cc pc = .ok (.ireturn, 1)) : VV E nL pc L [.int x] M := fun H locs ls hP hS hl => by
  obtain ⟨hr, hlk, hq⟩ := hE
  have h01 : x = 0 ∨ x = 1 := by
    unfold zbo at h
    split at h
    · assumption
    · cases h
  rw [hq]
  exact W.zret Z.1 Z.2.1 hr (by rcases h01 with rfl | rfl <;> rfl) (fun t ht hW => ⟨⟨rfl, by rw [ht]; exact hP⟩, hS.F ht⟩) hS.2.2 hd (hlocks := hlk)
theorem V_lret {x : Int64} (Z : zC E cc nL own fr lo) (hE : zEnd E (some .long) (some (.long x)) M) (hd : decode cc pc = .ok (.lreturn, 1)) : VV E nL pc L [.long x] M := fun H locs ls hP hS hl => by
  obtain ⟨hr, hlk, hq⟩ := hE
  rw [hq]
  exact W.lret Z.1 Z.2.1 hr (fun t ht hW => ⟨⟨rfl, by rw [ht]; exact hP⟩, hS.F ht⟩) hS.2.2 hd (hlocks := hlk)
theorem V_vret (Z : zC E cc nL own fr lo) (hE : zEnd E none none M) (hd : decode cc pc = .ok (.return_, 1)) : VV E nL pc L [] M := fun H locs ls hP hS hl => by
  obtain ⟨hr, hlk, hq⟩ := hE
  rw [hq]
  exact W.vret Z.1 Z.2.1 hr (fun t ht hW => ⟨⟨rfl, by rw [ht]; exact hP⟩, hS.F ht⟩) hS.2.2 hd (hlocks := hlk)
end ZR
section ZCALL
variable {p : Program} {l : Launch} {e : Env} {R : Room} {s : State} {m : MethodId} {args : Array Value} {below : List Frame} {meth : Method} {c : Code} {H : Heap} {locs : List Loc} {cells slots : Nat} {Q : State → Prop}
variable {pc : Nat} {ls : Array Slot} {rest st0 : List Value} {a : Array Value} {A0 A1 : Nat → Prop} {H0 : Heap} {free : Addr → Prop}
theorem z_callg {v : Option Value} {B : State → Prop} (hr : va_Run p l e R s m args below meth c H locs cells slots 0 0 (F0 m pc ls st0) rest (fun st oc t => (oc = .returned v ∧ B t) ∧ va_F A1 st t) free) (hS : va_S A0 H0 H locs) (hA : ∀ q, q < H.size → A1 q → A0 q) (hf : ∀ q, free q → A0 q)
    (kk : ∀ (t : State) (H1 : Heap) (locs1 : List Loc), t.heap = H1 → B t → va_S A0 H0 H1 locs1 → W p l e R s m args below meth c H1 locs1 cells slots Q (F0 m (pc + 3) ls (v.toList ++ rest))) : W p l e R s m args below meth c H locs cells slots Q (F0 m pc ls st0) := by
  intro T hT X
  obtain ⟨v', st₀, t, T', L, h0, X', hL, e1, e2, ⟨⟨hv, hb⟩, hz, hk⟩, st⟩ := hr T hT X
  cases hv
  rw [h0] at hz hk
  obtain ⟨t2, a1, b1⟩ := kk t T'.heap (locs ++ L) e1.symm hb
    ⟨Nat.le_trans hS.1 (by rw [e1]; exact hz), fun q h1 h2 => by rw [e1, hk q (Nat.lt_of_lt_of_le h1 hS.1) (fun z => h2 (hA q (Nat.lt_of_lt_of_le h1 hS.1) z))]; exact hS.2.1 q h1 h2, fun q hq => by
      rcases List.mem_append.mp hq with h | h
      · exact hS.2.2 q h
      · exact hf _ (hL q h)⟩ T' rfl X'
  exact ⟨t2, st t2 a1, b1⟩
end ZCALL
section ZV
variable {E : zEv} {cc : ByteArray} {nL pc fr lo : Nat} {own : String} {L : List (Nat × Value)} {S : List Value} {M : zM}
/-- the callee's start, at the caller's heap -/
theorem z_pre {av : List Value} {H : Heap} {locs : List Loc} (Z : zC E cc nL own fr lo) (hP : va_P (eG E).1 zCl (zW (eG E) (ead E) M) H) (hS : va_S (eA E) (es E).heap H locs) : ∀ U : State, U.heap = H → (es E).WarmedH U.vm → zPc (eG E) (ead E) H.size av M (av.map (cv (ead E))).toArray U := fun U hU hW => by
  obtain ⟨hx, hb, hml, hown, hts, hK, hinj, hX, -⟩ := Z
  refine ⟨rfl, by rw [hU], by rw [hU]; exact hP, va_K.moved hW.alike hK, hinj, ?_⟩
  rw [hU]
  exact zExt_warm hW (zExt_narrow (zExt_kept hX hS.2.1) (zA_mono hS.1))
theorem cv_sum (ad : Nat → Nat) (l : List Value) : ((l.map (cv ad)).map fun v => v.category).sum = (l.map fun v => v.category).sum := by
  rw [List.map_map]
  congr 2
  funext v
  exact cv_cat ad v
/-- what the tables say of a method that is called -/
def zCd (y : MethodName) (bytes : ByteArray) (mL : Nat) (ret : Option FieldType) (n : Nat) : Prop := Cond.code y bytes mL ret ∈ zTB ∧ Cond.initialized y.cls ∈ zTB ∧ (y.cls ≠ "java/lang/invoke/MethodHandle" ∧ y.cls ≠ "java/lang/invoke/VarHandle") ∧ (parseMethodDescriptor y.desc).map (fun d => d.parameters.length) = some n
theorem z_cb {y : MethodName} {bytes : ByteArray} {mL n fr2 lo2 index : Nat} {ret : Option FieldType} (Z : zC E cc nL own fr lo) (hy : zCd y bytes mL ret n) (hl : Cond.methodLink own index y ∈ zTB) (hR : fr2 + 1 ≤ fr ∧ 8 + (mL + 11) + lo2 ≤ lo) : CallB (eR E) (es E) (ea E) own index y bytes mL ret (.code y bytes mL ret :: zTB) ({ frames := fr2, cells := 0, slots := 0, locals := lo2 } : Room) 0 0 n := by
  obtain ⟨h1, h2, h3, h4⟩ := hy
  have hts := Z.2.2.2.2.1
  exact callB_of n hts (zTB_goodIn h1 (fun w h => h)) rfl rfl rfl (hts _ h2) (hts _ hl) ⟨h3.1, h3.2, h4⟩ ⟨Nat.le_trans hR.1 Z.2.2.2.2.2.2.2.2.1.1, Nat.le_trans hR.2 Z.2.2.2.2.2.2.2.2.1.2⟩
theorem z_recv {k ci : Nat} {fl : List (Option Nat)} {C : String} {T : u_T} {N : Nat} {ty : Nat → FieldType} {H : Heap} (Z : zC E cc nL own fr lo) (hP : va_P (eG E).1 zCl (zW (eG E) (ead E) M) H) (hc : zCls ci C T N ty) (hk : k < NC) (hs : sh k = .inr (.inl (ci, fl))) : ∃ cell : Cell, H[ead E k]? = some cell ∧ cell.vm.isStatics = false ∧ (es E).vm.findClass C = some cell.cls := by
  have hz := zW_at (G := eG E) (ad := ead E) (M := M) hk
  rw [zE_obj hs] at hz
  exact va_recv Z.2.2.2.2.2.1 hP (ci := ci) (q0 := k) hc.1 hz
/-- a virtual call (a private method of one's own class among them) -/
theorem V_callV {y : MethodName} {bytes : ByteArray} {mL fr2 lo2 index : Nat} {ret : Option FieldType} {k ci N : Nat} {fl : List (Option Nat)} {T : u_T} {ty : Nat → FieldType} {As rest : List Value} {v : Option Value} {M' : zM} (n : Nat) (Z : zC E cc nL own fr lo) (hr : zRuns y bytes mL ret fr2 lo2 (.ref k :: As) M v M') (hy : zCd y bytes mL ret n) (hc : zCls ci y.cls T N ty) (hk : k < NC) (hs : sh k = .inr (.inl (ci, fl))) (hl : Cond.methodLink own index y ∈ zTB) (hi : Cond.instanceMethod y ∈ zTB) (hsel : Cond.selects y.cls y y ∈ zTB) (hst : S = As.reverse ++ .ref k :: rest) (hd : decode cc pc = .ok (.invokevirtual index, 3)) (hR : (decide (fr2 + 1 ≤ fr) && decide (8 + (mL + 11) + lo2 ≤ lo) && decide (As.length = n) && decide ((rest.map fun v => v.category).sum ≤ 8)) = true) (kk : VV E nL (pc + 3) L (v.toList ++ rest) M') : VV E nL pc L S M := fun H locs ls hP hS hl2 => by
  simp only [Bool.and_eq_true, decide_eq_true_eq] at hR
  subst hst
  have hx := Z.1
  refine z_callg (va_runV (C := y.cls) (As := As.map (cv (ead E))) (b := ead E k) (rest := rest.map (cv (ead E))) (n := n) ⟨Z.1, Z.2.1, Z.2.2.1, Z.2.2.2.1, Z.2.2.2.2.1⟩ (hr (el E) (eG E) (ead E) H.size) ⟨z_cb Z hy hl ⟨hR.1.1.1, hR.1.1.2⟩, Z.2.2.2.2.1 _ hi, Z.2.2.2.2.1 _ hsel⟩ ⟨zPc_blind, z_recv Z hP hc hk hs, z_pre Z hP hS⟩ rfl (by rw [List.length_map]; exact hR.1.2) hl2.1 ?_ ?_ hd ⟨Z.2.2.2.2.2.2.2.2.2.1, Z.2.2.2.2.2.2.2.2.2.2⟩) hS (fun q _ h => zA_mono hS.1 q h) (fun q h => zA_mono hS.1 q h) (fun t H1 locs1 ht hB hS1 => ?_)
  · show List.map (cv (ead E)) (As.reverse ++ .ref k :: rest) = _
    rw [List.map_append, List.map_reverse]
    rfl
  · show 2 * 0 + _ ≤ 8
    rw [cv_sum]
    omega
  · subst ht
    have h2 := kk t.heap locs1 ls hB hS1 hl2
    rw [List.map_append] at h2
    cases v <;> exact h2
/-- a static call -/
theorem V_callS {y : MethodName} {bytes : ByteArray} {mL fr2 lo2 index : Nat} {ret : Option FieldType} {As rest : List Value} {v : Option Value} {M' : zM} (n : Nat) (Z : zC E cc nL own fr lo) (hr : zRuns y bytes mL ret fr2 lo2 As M v M') (hy : zCd y bytes mL ret n) (hl : Cond.methodLink own index y ∈ zTB) (hi : Cond.static y ∈ zTB) (hst : S = As.reverse ++ rest) (hd : decode cc pc = .ok (.invokestatic index, 3)) (hR : (decide (fr2 + 1 ≤ fr) && decide (8 + (mL + 11) + lo2 ≤ lo) && decide (As.length = n) && decide ((rest.map fun v => v.category).sum ≤ 8)) = true) (kk : VV E nL (pc + 3) L (v.toList ++ rest) M') : VV E nL pc L S M := fun H locs ls hP hS hl2 => by
  simp only [Bool.and_eq_true, decide_eq_true_eq] at hR
  subst hst
  refine z_callg (va_runS (As := As.map (cv (ead E))) (rest := rest.map (cv (ead E))) (n := n) ⟨Z.1, Z.2.1, Z.2.2.1, Z.2.2.2.1, Z.2.2.2.2.1⟩ (hr (el E) (eG E) (ead E) H.size) ⟨z_cb Z hy hl ⟨hR.1.1.1, hR.1.1.2⟩, Z.2.2.2.2.1 _ hi⟩ ⟨zPc_blind, z_pre Z hP hS⟩ rfl (by rw [List.length_map]; exact hR.1.2) hl2.1 ?_ ?_ hd ⟨Z.2.2.2.2.2.2.2.2.2.1, Z.2.2.2.2.2.2.2.2.2.2⟩) hS (fun q _ h => zA_mono hS.1 q h) (fun q h => zA_mono hS.1 q h) (fun t H1 locs1 ht hB hS1 => ?_)
  · show List.map (cv (ead E)) (As.reverse ++ rest) = _
    rw [List.map_append, List.map_reverse]
  · show 2 * 0 + _ ≤ 8
    rw [cv_sum]
    omega
  · subst ht
    have h2 := kk t.heap locs1 ls hB hS1 hl2
    rw [List.map_append] at h2
    cases v <;> exact h2
/-- a static call of a nest mate's private method -/
theorem V_callSN {y : MethodName} {bytes : ByteArray} {mL fr2 lo2 index : Nat} {ret : Option FieldType} {As rest : List Value} {v : Option Value} {M' : zM} (n : Nat) (host : String) (Z : zC E cc nL own fr lo) (hr : zRuns y bytes mL ret fr2 lo2 As M v M') (hy : zCd y bytes mL ret n) (hl : (own, index, y, host) ∈ zNs) (hi : Cond.static y ∈ zTB) (hst : S = As.reverse ++ rest) (hd : decode cc pc = .ok (.invokestatic index, 3)) (hR : (decide (fr2 + 1 ≤ fr) && decide (8 + (mL + 11) + lo2 ≤ lo) && decide (As.length = n) && decide ((rest.map fun v => v.category).sum ≤ 8)) = true) (kk : VV E nL (pc + 3) L (v.toList ++ rest) M') : VV E nL pc L S M := fun H locs ls hP hS hl2 => by
  simp only [Bool.and_eq_true, decide_eq_true_eq] at hR
  subst hst
  obtain ⟨h1, h2, h3, h4⟩ := id hy
  have hts := Z.2.2.2.2.1
  have hN : va_Nw (.methodLinkNest own index y host) (es E) := Z.2.2.2.2.2.2.2.1.2.2.2.2 _ hl
  refine z_callg (va_runSN (host := host) (As := As.map (cv (ead E))) (rest := rest.map (cv (ead E))) (n := n) ⟨Z.1, Z.2.1, Z.2.2.1, Z.2.2.2.1, Z.2.2.2.2.1⟩ (hr (el E) (eG E) (ead E) H.size) ⟨va_cnB n hts (zTB_goodIn h1 (fun w h => h)) rfl rfl rfl hN (hts _ h2) ⟨h3.1, h3.2, h4⟩ ⟨Nat.le_trans hR.1.1.1 Z.2.2.2.2.2.2.2.2.1.1, Nat.le_trans hR.1.1.2 Z.2.2.2.2.2.2.2.2.1.2⟩, hts _ hi, trivial⟩ ⟨zPc_blind, z_pre Z hP hS⟩ rfl (by rw [List.length_map]; exact hR.1.2) hl2.1 ?_ ?_ hd ⟨Z.2.2.2.2.2.2.2.2.2.1, Z.2.2.2.2.2.2.2.2.2.2⟩) hS (fun q _ h => zA_mono hS.1 q h) (fun q h => zA_mono hS.1 q h) (fun t H1 locs1 ht hB hS1 => ?_)
  · show List.map (cv (ead E)) (As.reverse ++ rest) = _
    rw [List.map_append, List.map_reverse]
  · show 2 * 0 + _ ≤ 8
    rw [cv_sum]
    omega
  · subst ht
    have h2 := kk t.heap locs1 ls hB hS1 hl2
    rw [List.map_append] at h2
    cases v <;> exact h2
end ZV
section ZN
variable {E : zEv} {cc : ByteArray} {nL pc fr lo : Nat} {own : String} {L : List (Nat × Value)} {S : List Value} {M : zM}
def zMM : List Cond := [.static Lib.Math.min.name, .initialized "java/lang/Math", .code Lib.Math.min.name Lib.Math.min.code 2 (some .int), .static Lib.Math.max.name, .code Lib.Math.max.name Lib.Math.max.code 2 (some .int)]
theorem V_min {index : Nat} {x y : Int32} (Z : zC E cc nL own fr lo) (hl : Cond.methodLink own index Lib.Math.min.name ∈ zTB) (hs : Cond.static Lib.Math.min.name ∈ zTB) (hi : Cond.initialized "java/lang/Math" ∈ zTB) (hc : Cond.code Lib.Math.min.name Lib.Math.min.code 2 (some .int) ∈ zTB) (hd : decode cc pc = .ok (.invokestatic index, 3)) (hR : (decide (1 ≤ fr) && decide ((S.map fun v => v.category).sum + 13 ≤ lo)) = true) (k : VV E nL (pc + 3) L (.int (if y < x then y else x) :: S) M) : VV E nL pc L (.int y :: .int x :: S) M := fun H locs ls hP hS hl2 => by
  simp only [Bool.and_eq_true, decide_eq_true_eq] at hR
  have hts := Z.2.2.2.2.1
  exact va_mmin Z.1 Z.2.1 (Z.2.2.1.trans hl2.1.symm) Z.2.2.2.1 (hts _ hl) (hts _ hs) (hts _ hi) (hts _ hc) (Nat.le_trans hR.1 Z.2.2.2.2.2.2.2.2.1.1) (by rw [cv_sum]; exact Nat.le_trans hR.2 Z.2.2.2.2.2.2.2.2.1.2) Z.2.2.2.2.2.2.2.2.2.1 Z.2.2.2.2.2.2.2.2.2.2 hd (k H locs ls hP hS hl2)
theorem V_max {index : Nat} {x y : Int32} (Z : zC E cc nL own fr lo) (hl : Cond.methodLink own index Lib.Math.max.name ∈ zTB) (hs : Cond.static Lib.Math.max.name ∈ zTB) (hi : Cond.initialized "java/lang/Math" ∈ zTB) (hc : Cond.code Lib.Math.max.name Lib.Math.max.code 2 (some .int) ∈ zTB) (hd : decode cc pc = .ok (.invokestatic index, 3)) (hR : (decide (1 ≤ fr) && decide ((S.map fun v => v.category).sum + 13 ≤ lo)) = true) (k : VV E nL (pc + 3) L (.int (if x < y then y else x) :: S) M) : VV E nL pc L (.int y :: .int x :: S) M := fun H locs ls hP hS hl2 => by
  simp only [Bool.and_eq_true, decide_eq_true_eq] at hR
  have hts := Z.2.2.2.2.1
  exact va_mmax Z.1 Z.2.1 (Z.2.2.1.trans hl2.1.symm) Z.2.2.2.1 (hts _ hl) (hts _ hs) (hts _ hi) (hts _ hc) (Nat.le_trans hR.1 Z.2.2.2.2.2.2.2.2.1.1) (by rw [cv_sum]; exact Nat.le_trans hR.2 Z.2.2.2.2.2.2.2.2.1.2) Z.2.2.2.2.2.2.2.2.2.1 Z.2.2.2.2.2.2.2.2.2.2 hd (k H locs ls hP hS hl2)
theorem zcp_spec {M' : zM} {a b : Nat} {sp dp n : Int32} (h : zcp M a sp b dp n = some M') : ∃ na nb, sh a = .inl na ∧ sh b = .inl nb ∧ ¬ sp < 0 ∧ ¬ dp < 0 ∧ ¬ n < 0 ∧ sp.toNatClampNeg + n.toNatClampNeg ≤ na ∧ dp.toNatClampNeg + n.toNatClampNeg ≤ nb ∧ M' = zCp M a b sp.toNatClampNeg dp.toNatClampNeg n.toNatClampNeg := by
  unfold zcp at h
  split at h
  · rename_i na nb h1 h2
    split at h
    · cases h
    · rename_i hc
      cases h
      simp only [not_or, Nat.not_lt] at hc
      exact ⟨na, nb, h1, h2, hc.1, hc.2.1, hc.2.2.1, hc.2.2.2.1, hc.2.2.2.2, rfl⟩
  · cases h
theorem V_copy {M' : zM} {index a b : Nat} {sp dp n : Int32} (Z : zC E cc nL own fr lo) (h : zcp M a sp b dp n = some M') (ha : a < NC) (hb2 : b < NC) (hl : Cond.methodLink own index arraycopyName ∈ zTB) (hna : Cond.native arraycopyName ∈ zTB) (hs : Cond.static arraycopyName ∈ zTB) (hi : Cond.initialized "java/lang/System" ∈ zTB) (hd : decode cc pc = .ok (.invokestatic index, 3)) (hR : (decide (1 ≤ fr) && decide ((S.map fun v => v.category).sum + (nativeFrameWords "java/lang/System" "arraycopy" 5 + 11) ≤ lo)) = true) (k : VV E nL (pc + 3) L S M') : VV E nL pc L (.int n :: .int dp :: .ref b :: .int sp :: .ref a :: S) M := fun H locs ls hP hS hl2 => by
  simp only [Bool.and_eq_true, decide_eq_true_eq] at hR
  have hts := Z.2.2.2.2.1
  obtain ⟨na, nb, h1, h2, h3, h4, h5, h6, h7, rfl⟩ := zcp_spec h
  have hza := zW_at (G := eG E) (ad := ead E) (M := M) ha
  rw [zE_arr h1] at hza
  have hzb := zW_at (G := eG E) (ad := ead E) (M := M) hb2
  rw [zE_arr h2] at hzb
  refine va_copyi Z.1 Z.2.1 (Z.2.2.1.trans hl2.1.symm) Z.2.2.2.1 (hts _ hl) (hts _ hna) (hts _ hs) (hts _ hi) Z.2.2.2.2.2.1 hP (zD (sz := (es E).heap.size) Z.2.2.2.2.2.2.1) hS a b 0 0 hza hzb rfl rfl rfl h3 h4 h5 h6 h7 (fun _ _ => rfl) (Nat.le_trans hR.1 Z.2.2.2.2.2.2.2.2.1.1) (by rw [cv_sum]; exact Nat.le_trans hR.2 Z.2.2.2.2.2.2.2.2.1.2) hd (fun H1 locs1 hP1 hD1 hS1 => ?_)
  rw [zW_set (M' := zCp M a b sp.toNatClampNeg dp.toNatClampNeg n.toNatClampNeg) hb2 (by rw [zE_arr h2]; simp [zCp]) (fun q hq => by simp [zCp, hq])] at hP1
  exact k H1 locs1 ls hP1 hS1 hl2
end ZN
end
section
/-! WHAT THE GENERATED WALKS USE. -/
theorem zIter_loop' {σ ρ τ : Type} {b : σ → Option (σ ⊕ ρ)} {K : ρ → Option τ} {y : τ} (P : σ → Prop) (hs : ∀ (K1 : σ ⊕ ρ → Option τ) (s : σ), (∀ s', K1 (.inl s') = some y → P s') → (∀ z, K1 (.inr z) = some y → K z = some y) → (b s).bind K1 = some y → P s) : ∀ (n : Nat) (s : σ), (zIter b n s).bind K = some y → P s :=
  zIter_loop P (fun n s ih h => hs (zK' b n K) s ih (fun _ h => h) h)
theorem zB_ite {β τ : Type} {c : Prop} [Decidable c] {a b : Option β} {K : β → Option τ} {y : τ} (h : (if c then a else b).bind K = some y) : (c ∧ a.bind K = some y) ∨ (¬ c ∧ b.bind K = some y) := by
  by_cases hc : c
  · exact Or.inl ⟨hc, zB_pos hc h⟩
  · exact Or.inr ⟨hc, zB_neg hc h⟩
theorem zB_lift {α σ τ : Type} {o : Option α} {K1 : σ ⊕ α → Option τ} {K : α → Option τ} {y : τ} (c0 : ∀ z, K1 (.inr z) = some y → K z = some y) (h : (o.bind fun z => some (Sum.inr z)).bind K1 = some y) : o.bind K = some y := by
  cases o with
  | none => cases h
  | some v => exact c0 v h
theorem zB_top {α : Type} {o : Option α} {y : α} (h : o = some y) : o.bind some = some y := by subst h; rfl
theorem zB_let {α β τ : Type} {v : α} {f : α → Option β} {K : β → Option τ} {y : τ} (h : ((some v).bind f).bind K = some y) : ∃ w, v = w ∧ (f w).bind K = some y := ⟨v, rfl, h⟩
theorem z_out {x : Int32} {lo hi : Int} (h : ∀ i : Int, lo ≤ i → i ≤ hi → ¬ x = Int32.ofInt i) : x.toInt < lo ∨ hi < x.toInt := by
  by_cases h1 : x.toInt < lo
  · exact Or.inl h1
  · by_cases h2 : hi < x.toInt
    · exact Or.inr h2
    · exact absurd (Int32.ofInt_toInt x).symm (h x.toInt (Int.not_lt.mp h1) (Int.not_lt.mp h2))
theorem z_look {x : Int32} {d : Int} : ∀ {ps : List (Int × Int)}, (∀ p ∈ ps, ¬ x = Int32.ofInt p.1) → Op.lookupswitch.offset ps d x.toInt = d := by
  intro ps
  induction ps with
  | nil => intro _; rfl
  | cons p ps ih =>
    intro h
    obtain ⟨a, o⟩ := p
    rw [Op.lookupswitch.offset_cons, if_neg, ih (fun p hp => h p (List.mem_cons_of_mem _ hp))]
    intro e
    exact h (a, o) List.mem_cons_self (by rw [e]; exact (Int32.ofInt_toInt x).symm)
section ZX
variable {E : zEv} {cc : ByteArray} {nL pc fr lo : Nat} {own : String} {L : List (Nat × Value)} {S : List Value} {M : zM}
/-- a number gets a name -/
theorem V_nm {a b : Int32} (e : a = b) (k : VV E nL pc L (.int b :: S) M) : VV E nL pc L (.int a :: S) M := by subst e; exact k
theorem V_nml {a b : Int64} (e : a = b) (k : VV E nL pc L (.long b :: S) M) : VV E nL pc L (.long a :: S) M := by subst e; exact k
theorem V_nmM {M' : zM} (e : M = M') (k : VV E nL pc L S M') : VV E nL pc L S M := by subst e; exact k
theorem V_ldcw {index : Nat} (v : Int32) (Z : zC E cc nL own fr lo) (hw : Cond.constant own index v ∈ zTB) (hd : decode cc pc = .ok (.ldc_w index, 3)) (k : VV E nL (pc + 3) L (.int v :: S) M) : VV E nL pc L S M := fun H locs ls hP hS hl => lv_ldcw Z.1 Z.2.1 Z.2.2.2.1 (Z.2.2.2.2.1 _ hw) hd (k H locs ls hP hS hl)
theorem V_tabE {x : Int32} (i : Int32) {dflt lo2 hi off : Int} {offs : Array Int} {len : Nat} (tgt : Nat) (Z : zC E cc nL own fr lo) (e : x = i) (hd : decode cc pc = .ok (.tableswitch dflt lo2 hi offs, len)) (h : (decide (¬ i.toInt < lo2) && decide (¬ hi < i.toInt) && (offs[(i.toInt - lo2).toNat]? == some off) && decide ((pc : Int) + off = (tgt : Int))) = true) (k : VV E nL tgt L S M) : VV E nL pc L (.int x :: S) M := by
  subst e
  exact V_tabIn tgt Z hd h k
theorem V_lookE {x : Int32} (i : Int32) {dflt : Int} {ps : Array (Int × Int)} {len : Nat} (tgt : Nat) (Z : zC E cc nL own fr lo) (e : x = i) (hd : decode cc pc = .ok (.lookupswitch dflt ps, len)) (h : ((ps.toList.zip (ps.toList.drop 1)).all (fun (a, next) => a.1 < next.1) && decide ((pc : Int) + Op.lookupswitch.offset ps.toList dflt i.toInt = (tgt : Int))) = true) (k : VV E nL tgt L S M) : VV E nL pc L (.int x :: S) M := by
  subst e
  simp only [Bool.and_eq_true, decide_eq_true_eq] at h
  exact V_look tgt Z hd h.1 rfl h.2 k
theorem V_lookD {x : Int32} {dflt : Int} {ps : Array (Int × Int)} {len : Nat} (tgt : Nat) (Z : zC E cc nL own fr lo) (hd : decode cc pc = .ok (.lookupswitch dflt ps, len)) (hx : ∀ p ∈ ps.toList, ¬ x = Int32.ofInt p.1) (h : ((ps.toList.zip (ps.toList.drop 1)).all (fun (a, next) => a.1 < next.1) && decide ((pc : Int) + dflt = (tgt : Int))) = true) (k : VV E nL tgt L S M) : VV E nL pc L (.int x :: S) M := by
  simp only [Bool.and_eq_true, decide_eq_true_eq] at h
  exact V_look tgt Z hd h.1 (z_look hx) h.2 k
theorem V_iretP {x y : Int32} (Z : zC E cc nL own fr lo) (hE : zEnd E (some .int) (some (.int y)) M) (h : some x = some y) (hd : decode cc pc = .ok (.ireturn, 1)) : VV E nL pc L [.int x] M := by cases h; exact V_iret Z hE hd
theorem V_iretM {x : Int32} {y : Int32 × zM} (Z : zC E cc nL own fr lo) (hE : zEnd E (some .int) (some (.int y.1)) y.2) (h : some (x, M) = some y) (hd : decode cc pc = .ok (.ireturn, 1)) : VV E nL pc L [.int x] M := by cases h; exact V_iret Z hE hd
theorem V_zretP {x y : Int32} (Z : zC E cc nL own fr lo) (hE : zEnd E (some .boolean) (some (.int y)) M) (h : some x = some y) (hb : zbo x = some x) (hd : decode cc pc = .ok (.ireturn, 1)) : VV E nL pc L [.int x] M := by cases h; exact V_zret Z hb hE hd
theorem V_zretM {x : Int32} {y : Int32 × zM} (Z : zC E cc nL own fr lo) (hE : zEnd E (some .boolean) (some (.int y.1)) y.2) (h : some (x, M) = some y) (hb : zbo x = some x) (hd : decode cc pc = .ok (.ireturn, 1)) : VV E nL pc L [.int x] M := by cases h; exact V_zret Z hb hE hd
theorem V_lretM {x : Int64} {y : Int64 × zM} (Z : zC E cc nL own fr lo) (hE : zEnd E (some .long) (some (.long y.1)) y.2) (h : some (x, M) = some y) (hd : decode cc pc = .ok (.lreturn, 1)) : VV E nL pc L [.long x] M := by cases h; exact V_lret Z hE hd
theorem V_vretM {y : zM} (Z : zC E cc nL own fr lo) (hE : zEnd E none none y) (h : some M = some y) (hd : decode cc pc = .ok (.return_, 1)) : VV E nL pc L [] M := by cases h; exact V_vret Z hE hd
end ZX
theorem zbo_v {v w : Int32} (h : zbo v = some w) : v = w ∧ zbo w = some w := by
  have := h
  unfold zbo at this
  split at this
  · cases this; exact ⟨rfl, h⟩
  · cases this
theorem zrr_S {q : Nat} {i : Int32} (h : zrr 37 i = some q) : isS q := by
  obtain ⟨rs, h1, h2, h3⟩ := zrr_spec h
  cases h1
  have : q ∈ [39, 41, 43, 45] := List.mem_of_getElem? h3
  simpa [isS] using this
/-- the length of a string constant, a character of it -/
def zsl (w : Nat) : Int32 := nI (zLen.getD w 0)
def zsc (w : Nat) (i : Int32) : Option Int32 := if i < 0 ∨ zLen.getD w 0 ≤ i.toNatClampNeg then none else some ((zByt.getD w []).getD i.toNatClampNeg 0)
theorem zrr_W {q : Nat} {i : Int32} (h : zrr 55 i = some q) : ∃ w, w < 13 ∧ q = 1000 + w := by
  obtain ⟨rs, h1, h2, h3⟩ := zrr_spec h
  cases h1
  have : q ∈ [1000, 1001, 1002, 1003, 1004, 1005, 1006] := List.mem_of_getElem? h3
  simp only [List.mem_cons, List.not_mem_nil, or_false] at this
  exact ⟨q - 1000, by omega, by omega⟩
end
section
/-! MORE OF THE SAME. -/
theorem isH_ne {t : Nat} (h : isH t) (n : Nat) (hn : n < 800 := by decide) : t + n ≠ 900 := by rcases h with rfl | rfl | rfl <;> omega
theorem isS_ne {t : Nat} (h : isS t) (n : Nat) (hn : n < 800 := by decide) : t + n ≠ 900 := by rcases h with rfl | rfl | rfl | rfl <;> omega
theorem zB_chk {β τ : Type} {c : Prop} [Decidable c] {a : Option β} {K : β → Option τ} {y : τ} (h : (if c then none else a).bind K = some y) : ¬ c ∧ a.bind K = some y := by
  by_cases hc : c
  · rw [if_pos hc] at h; cases h
  · rw [if_neg hc] at h; exact ⟨hc, h⟩
section ZI
variable {E : zEv} {cc : ByteArray} {nL pc fr lo : Nat} {own : String} {L : List (Nat × Value)} {S : List Value} {M : zM}
theorem V_iinck {i : Nat} (n : Int) (k : Int32) {x : Int32} (q : Nat) (v : Int32) (L2 : List (Nat × Value)) (Z : zC E cc nL own fr lo) (hk : Int32.ofInt n = k) (hn : i < nL) (hq : L[q]? = some (i, .int x)) (hv : x + k = v) (hL : (i, Value.int v) :: L.filter (fun q => !(q.1 == i) && !(q.1 + 1 == i && q.2.category == 2)) = L2) (hd : decode cc pc = .ok (.iinc i n, 3)) (kk : VV E nL (pc + 3) L2 S M) : VV E nL pc L S M := by
  subst hk
  exact V_iinc q v L2 Z hn hq hv hL hd kk
end ZI
theorem isH_ltp {t : Nat} (h : isH t) (n : Nat) (hn : n < 38 := by decide) : t + n < NC := by rcases h with rfl | rfl | rfl <;> (unfold NC; omega)
theorem isS_ltp {t : Nat} (h : isS t) (n : Nat) (hn : n < 16 := by decide) : t + n < NC := by rcases h with rfl | rfl | rfl | rfl <;> (unfold NC; omega)
end
section
/-! STRINGS: the constants' length and characters (the JDK's own methods walked). The bytes of string w are the cell 2000 + w. -/
section ZL
variable {p : Program} {l : Launch} {e : Env} {R : Room} {s : State} {m : MethodId} {args : Array Value} {below : List Frame} {meth : Method} {c : Code} {T : State} {H : Heap} {locs : List Loc} {cells slots : Nat} {Q : State → Prop} {cc : ByteArray} {pc : Nat} {ls : Array Slot} {rest : List Value}
theorem z_ldcwS (X : Stand p l e R s m args below meth c T locs cells slots) (hexec : p.tables.exec = Jvm.exec) {own text : String} {index : Nat} {a : Addr} (hown : s.vm.findClass own = some m.cls)
    (hconst : (Cond.stringRef own index text).before args s = true) (hev : (Term.string own index).eval args s none [] s = some (.ref a)) {g : JFrame} (hg : g.method = m) (hdg : decode c.code g.pc = .ok (.ldc_w index, 3)) :
    ∀ target, Steps p.tables e below (T.setTop { g with pc := g.pc + 3, stack := .ref a :: g.stack }) target → Steps p.tables e below (T.setTop g) target := by
  obtain ⟨k, cf, i, a', hk, hcf, hcp, -, hr, hev'⟩ := Cond.stringRef_spec hown hconst
  cases hev.symm.trans hev'
  obtain ⟨k', hk', he⟩ := X.warmed.alike.2.2 _ _ hk
  have hr' : k'.resolved[index]? = some (some (.string a)) := by
    rcases X.warmed.entry hk hk' index with h | ⟨h, -⟩
    · rw [h]; exact hr
    · rw [hr] at h; cases h
  intro target hrest
  subst hg
  jvm_step X.here [hexec, hdg, ldc_w.wp_string (e := e) (s := T) (f := g) X.here.top hk' (by rw [he]; exact hcf) hcp hr']
  exact hrest
theorem z_ldcwSW (hexec : p.tables.exec = Jvm.exec) (hb : c.code = cc) {own tx : String} {index q : Nat} (hown : s.vm.findClass own = some m.cls) (hZ : vk_R own index tx q s) (hdg : decode cc pc = .ok (.ldc_w index, 3))
    (k : W p l e R s m args below meth c H locs cells slots Q (F0 m (pc + 3) ls (.ref q :: rest))) : W p l e R s m args below meth c H locs cells slots Q (F0 m pc ls rest) := by
  intro T hT X
  obtain ⟨t, a1, b1⟩ := k T hT X
  exact ⟨t, z_ldcwS X hexec hown (text := tx) (a := q) hZ.1 hZ.2 (g := F0 m pc ls rest) rfl (by rw [hb]; exact hdg) t a1, b1⟩
end ZL
section ZS
variable {E : zEv} {cc : ByteArray} {nL pc fr lo : Nat} {own : String} {L : List (Nat × Value)} {S : List Value} {M : zM}
theorem V_ldcwS {index : Nat} (tx : String) (i : Nat) (Z : zC E cc nL own fr lo) (hq : (own, index, tx, i) ∈ zStrs) (hd : decode cc pc = .ok (.ldc_w index, 3)) (k : VV E nL (pc + 3) L (.ref (1000 + i) :: S) M) : VV E nL pc L S M := fun H locs ls hP hS hl => z_ldcwSW Z.1 Z.2.1 Z.2.2.2.1 (Z.2.2.2.2.2.2.2.1.2.2.2.1 _ hq) hd (k H locs ls hP hS hl)
theorem V_strval {w index : Nat} (Z : zC E cc nL own fr lo) (hw : w < 13) (hl : Cond.fieldLink own index "java/lang/String" "value" "[B" ∈ zTB) (hd : decode cc pc = .ok (.getfield index, 3)) (k : VV E nL (pc + 3) L (.ref (2000 + w) :: S) M) : VV E nL pc L (.ref (1000 + w) :: S) M := fun H locs ls hP hS hl2 => vk_getf Z.1 Z.2.1 (Z.2.2.2.2.2.2.2.1.1.1 w hw).2.2.1 hS Z.2.2.2.1 (Z.2.2.2.2.1 _ hl) (fun _ h => h) hd (k H locs ls hP hS hl2)
theorem V_strcod {w index : Nat} (Z : zC E cc nL own fr lo) (hw : w < 13) (hl : Cond.fieldLink own index "java/lang/String" "coder" "B" ∈ zTB) (hd : decode cc pc = .ok (.getfield index, 3)) (k : VV E nL (pc + 3) L (.int 0 :: S) M) : VV E nL pc L (.ref (1000 + w) :: S) M := fun H locs ls hP hS hl2 => vk_getf Z.1 Z.2.1 (Z.2.2.2.2.2.2.2.1.1.1 w hw).2.1 hS Z.2.2.2.1 (Z.2.2.2.2.1 _ hl) (fun _ h => h) hd (k H locs ls hP hS hl2)
theorem V_compact {index : Nat} (Z : zC E cc nL own fr lo) (hl : Cond.fieldLink own index "java/lang/String" "COMPACT_STRINGS" "Z" ∈ zTB) (hd : decode cc pc = .ok (.getstatic index, 3)) (k : VV E nL (pc + 3) L (.int 1 :: S) M) : VV E nL pc L S M := fun H locs ls hP hS hl2 => va_gets Z.1 Z.2.1 Z.2.2.2.2.2.2.2.1.2.1 hS Z.2.2.2.1 (Z.2.2.2.2.1 _ hl) (fun _ h => h) hd (k H locs ls hP hS hl2)
theorem V_sioobe {index : Nat} (Z : zC E cc nL own fr lo) (hl : Cond.fieldLink own index "jdk/internal/util/Preconditions" "SIOOBE_FORMATTER" "Ljava/util/function/BiFunction;" ∈ zTB) (hd : decode cc pc = .ok (.getstatic index, 3)) (k : ∀ v : Value, v = .null ∨ v = .ref 3000 → VV E nL (pc + 3) L (v :: S) M) : VV E nL pc L S M := fun H locs ls hP hS hl2 => by
  rcases Z.2.2.2.2.2.2.2.1.2.2.1 with h | h
  · exact va_gets Z.1 Z.2.1 h hS Z.2.2.2.1 (Z.2.2.2.2.1 _ hl) (fun _ h => h) hd (k .null (Or.inl rfl) H locs ls hP hS hl2)
  · exact va_gets Z.1 Z.2.1 h hS Z.2.2.2.1 (Z.2.2.2.2.1 _ hl) (fun _ h => h) hd (k (.ref 3000) (Or.inr rfl) H locs ls hP hS hl2)
theorem V_blen {w : Nat} (Z : zC E cc nL own fr lo) (hw : w < 13) (hd : decode cc pc = .ok (.arraylength, 1)) (k : VV E nL (pc + 1) L (.int (zsl w) :: S) M) : VV E nL pc L (.ref (2000 + w) :: S) M := fun H locs ls hP hS hl2 => va_tlen Z.1 Z.2.1 (Z.2.2.2.2.2.2.2.1.1.1 w hw).2.2.2 hS rfl hd (k H locs ls hP hS hl2)
theorem V_bald {w : Nat} {i v : Int32} (Z : zC E cc nL own fr lo) (hw : w < 13) (hv : zsc w i = some v) (hd : decode cc pc = .ok (.baload, 1)) (k : VV E nL (pc + 1) L (.int v :: S) M) : VV E nL pc L (.int i :: .ref (2000 + w) :: S) M := fun H locs ls hP hS hl2 => by
  unfold zsc at hv
  split at hv
  · cases hv
  · rename_i hin
    cases hv
    exact va_tb Z.1 Z.2.1 (Z.2.2.2.2.2.2.2.1.1.1 w hw).2.2.2 hS hin rfl hd (k H locs ls hP hS hl2)
theorem V_i2c {x : Int32} (Z : zC E cc nL own fr lo) (hd : decode cc pc = .ok (.i2c, 1)) (k : VV E nL (pc + 1) L (.int ((x.toUInt32 % 65536).toInt32) :: S) M) : VV E nL pc L (.int x :: S) M := fun H locs ls hP hS hl2 => lv_i2c Z.1 Z.2.1 hd rfl (k H locs ls hP hS hl2)
theorem V_aloadv {f : Fin 4} {i : Nat} {v : Value} (q : Nat) (Z : zC E cc nL own fr lo) (hv : v = .null ∨ v = .ref 3000) (hL : L[q]? = some (i, v)) (hi : (f : Nat) = i) (hd : decode cc pc = .ok (.aload_n f, 1)) (k : VV E nL (pc + 1) L (v :: S) M) : VV E nL pc L S M := fun H locs ls hP hS hl2 => by
  rcases hv with rfl | rfl
  · exact lv_aload_nN Z.1 Z.2.1 hd hi (zL_at hl2 hL) (k H locs ls hP hS hl2)
  · exact lv_aload_n Z.1 Z.2.1 hd hi (zL_at hl2 hL) (k H locs ls hP hS hl2)
/-- a call on a string constant -/
theorem V_callW {y : MethodName} {bytes : ByteArray} {mL fr2 lo2 index : Nat} {ret : Option FieldType} {w : Nat} {As rest : List Value} {v : Option Value} {M' : zM} (n : Nat) (Z : zC E cc nL own fr lo) (hw : w < 13) (hr : zRuns y bytes mL ret fr2 lo2 (.ref (1000 + w) :: As) M v M') (hy : zCd y bytes mL ret n) (hcl : y.cls = "java/lang/String") (hl : Cond.methodLink own index y ∈ zTB) (hi : Cond.instanceMethod y ∈ zTB) (hsel : Cond.selects y.cls y y ∈ zTB) (hst : S = As.reverse ++ .ref (1000 + w) :: rest) (hd : decode cc pc = .ok (.invokevirtual index, 3)) (hR : fr2 + 1 ≤ fr ∧ 8 + (mL + 11) + lo2 ≤ lo ∧ As.length = n ∧ (rest.map fun v => v.category).sum ≤ 8) (kk : VV E nL (pc + 3) L (v.toList ++ rest) M') : VV E nL pc L S M := fun H locs ls hP hS hl2 => by
  subst hst
  have hrc : ∃ cell : Cell, H[ead E (1000 + w)]? = some cell ∧ cell.vm.isStatics = false ∧ (es E).vm.findClass y.cls = some cell.cls := by
    rw [hcl]
    exact vk_recv (adK := fun i => ead E (1000 + i)) Z.2.2.2.2.2.2.2.1.1 hw hS
  refine z_callg (va_runV (C := y.cls) (As := As.map (cv (ead E))) (b := ead E (1000 + w)) (rest := rest.map (cv (ead E))) (n := n) ⟨Z.1, Z.2.1, Z.2.2.1, Z.2.2.2.1, Z.2.2.2.2.1⟩ (hr (el E) (eG E) (ead E) H.size) ⟨z_cb Z hy hl ⟨hR.1, hR.2.1⟩, Z.2.2.2.2.1 _ hi, Z.2.2.2.2.1 _ hsel⟩ ⟨zPc_blind, hrc, z_pre Z hP hS⟩ rfl (by rw [List.length_map]; exact hR.2.2.1) hl2.1 ?_ ?_ hd ⟨Z.2.2.2.2.2.2.2.2.2.1, Z.2.2.2.2.2.2.2.2.2.2⟩) hS (fun q _ h => zA_mono hS.1 q h) (fun q h => zA_mono hS.1 q h) (fun t H1 locs1 ht hB hS1 => ?_)
  · show List.map (cv (ead E)) (As.reverse ++ .ref (1000 + w) :: rest) = _
    rw [List.map_append, List.map_reverse]
    rfl
  · show 2 * 0 + _ ≤ 8
    rw [cv_sum]
    exact Nat.le_trans (Nat.le_of_eq (Nat.zero_add _)) hR.2.2.2
  · subst ht
    have h2 := kk t.heap locs1 ls hB hS1 hl2
    rw [List.map_append] at h2
    cases v <;> exact h2
theorem V_nret {x : Int32} {ty : FieldType} (Z : zC E cc nL own fr lo) (h : narrow ty (.int x) = .int x) (hE : zEnd E (some ty) (some (.int x)) M) (hd : decode cc pc = .ok (.ireturn, 1)) : VV E nL pc L [.int x] M := fun H locs ls hP hS hl => by
  obtain ⟨hr, hlk, hq⟩ := hE
  rw [hq]
  exact W.zret Z.1 Z.2.1 hr h (fun t ht hW => ⟨⟨rfl, by rw [ht]; exact hP⟩, hS.F ht⟩) hS.2.2 hd (hlocks := hlk)
end ZS
theorem cd_coder : zCd yJ0_coder_7d493 cJ0_coder_7d493 1 (some .byte) 0 := ⟨w609, w74, ⟨by decide, by decide⟩, by decide +kernel⟩
theorem cd_length : zCd yJ0_length_8abf5 cJ0_length_8abf5 1 (some .int) 0 := ⟨w605, w74, ⟨by decide, by decide⟩, by decide +kernel⟩
theorem cd_isLatin1 : zCd yJ0_isLatin1_aae02 cJ0_isLatin1_aae02 1 (some .boolean) 0 := ⟨w619, w74, ⟨by decide, by decide⟩, by decide +kernel⟩
theorem cd_charAt : zCd yJ0_charAt_5068e cJ0_charAt_5068e 2 (some .char) 1 := ⟨w615, w74, ⟨by decide, by decide⟩, by decide +kernel⟩
theorem cd_charAt1 : zCd yJ1_charAt_3b067 cJ1_charAt_3b067 2 (some .char) 2 := ⟨w622, w75, ⟨by decide, by decide⟩, by decide +kernel⟩
theorem cd_chk : zCd yJ0_checkIndex_df160 cJ0_checkIndex_df160 2 none 2 := ⟨w625, w74, ⟨by decide, by decide⟩, by decide +kernel⟩
theorem cd_chk3 : zCd yJ3_checkIndex_8e157 cJ3_checkIndex_8e157 3 (some .int) 3 := ⟨w630, w76, ⟨by decide, by decide⟩, by decide +kernel⟩
theorem ok_coder {w : Nat} {M : zM} (hw : w < 13) : zRuns yJ0_coder_7d493 cJ0_coder_7d493 1 (some .byte) 0 0 [.ref (1000 + w)] M (some (.int 0)) M := by
  refine zRuns_of (by decide +kernel) (Nat.le_of_ble_eq_true rfl) (fun E Z hE => ?_)
  change VV E 1 0 [(0, Value.ref (1000 + w))] [] M
  refine V_compact Z w610 (show decode cJ0_coder_7d493 0 = .ok (.getstatic 38, 3) by decide +kernel) ?_
  refine V_if_eq 13 Z (by decide) (show decode cJ0_coder_7d493 3 = .ok (.ifCond .eq 10, 3) by decide +kernel) (fun c => absurd c (by decide)) (fun _ => ?_)
  refine V_aload_n 0 Z rfl rfl (show decode cJ0_coder_7d493 6 = .ok (.aload_n 0, 1) by decide +kernel) ?_
  refine V_strcod Z hw w1275 (show decode cJ0_coder_7d493 7 = .ok (.getfield 15, 3) by decide +kernel) ?_
  refine V_goto 14 Z (by decide) (show decode cJ0_coder_7d493 10 = .ok (.goto 4, 3) by decide +kernel) ?_
  exact V_nret Z rfl hE (show decode cJ0_coder_7d493 14 = .ok (.ireturn, 1) by decide +kernel)
theorem ok_length {w : Nat} {M : zM} (hw : w < 13) : zRuns yJ0_length_8abf5 cJ0_length_8abf5 1 (some .int) 1 20 [.ref (1000 + w)] M (some (.int (zsl w))) M := by
  refine zRuns_of (by decide +kernel) (Nat.le_of_ble_eq_true rfl) (fun E Z hE => ?_)
  change VV E 1 0 [(0, Value.ref (1000 + w))] [] M
  refine V_aload_n 0 Z rfl rfl (show decode cJ0_length_8abf5 0 = .ok (.aload_n 0, 1) by decide +kernel) ?_
  refine V_strval Z hw w1274 (show decode cJ0_length_8abf5 1 = .ok (.getfield 9, 3) by decide +kernel) ?_
  refine V_blen Z hw (show decode cJ0_length_8abf5 4 = .ok (.arraylength, 1) by decide +kernel) ?_
  refine V_aload_n 0 Z rfl rfl (show decode cJ0_length_8abf5 5 = .ok (.aload_n 0, 1) by decide +kernel) ?_
  refine V_callW (rest := [_]) 0 Z hw (ok_coder hw) cd_coder rfl w606 w607 w608 rfl (show decode cJ0_length_8abf5 6 = .ok (.invokevirtual 335, 3) by decide +kernel) ⟨by decide, by decide, rfl, Nat.le_of_ble_eq_true rfl⟩ ?_
  refine V_ishr Z (show decode cJ0_length_8abf5 9 = .ok (.ishr, 1) by decide +kernel) ?_
  refine V_nm (sb_shr0 (zsl w)) ?_
  exact V_iret Z hE (show decode cJ0_length_8abf5 10 = .ok (.ireturn, 1) by decide +kernel)
theorem ok_isLatin1 {w : Nat} {M : zM} (hw : w < 13) : zRuns yJ0_isLatin1_aae02 cJ0_isLatin1_aae02 1 (some .boolean) 0 0 [.ref (1000 + w)] M (some (.int 1)) M := by
  refine zRuns_of (by decide +kernel) (Nat.le_of_ble_eq_true rfl) (fun E Z hE => ?_)
  change VV E 1 0 [(0, Value.ref (1000 + w))] [] M
  refine V_compact Z w610 (show decode cJ0_isLatin1_aae02 0 = .ok (.getstatic 38, 3) by decide +kernel) ?_
  refine V_if_eq 17 Z (by decide) (show decode cJ0_isLatin1_aae02 3 = .ok (.ifCond .eq 14, 3) by decide +kernel) (fun c => absurd c (by decide)) (fun _ => ?_)
  refine V_aload_n 0 Z rfl rfl (show decode cJ0_isLatin1_aae02 6 = .ok (.aload_n 0, 1) by decide +kernel) ?_
  refine V_strcod Z hw w1275 (show decode cJ0_isLatin1_aae02 7 = .ok (.getfield 15, 3) by decide +kernel) ?_
  refine V_if_ne 17 Z (by decide) (show decode cJ0_isLatin1_aae02 10 = .ok (.ifCond .ne 7, 3) by decide +kernel) (fun c => absurd rfl c) (fun _ => ?_)
  refine V_iconst 1 (by decide) Z (show decode cJ0_isLatin1_aae02 13 = .ok (.iconst 1, 1) by decide +kernel) ?_
  refine V_goto 18 Z (by decide) (show decode cJ0_isLatin1_aae02 14 = .ok (.goto 4, 3) by decide +kernel) ?_
  exact V_nret Z rfl hE (show decode cJ0_isLatin1_aae02 18 = .ok (.ireturn, 1) by decide +kernel)
theorem ok_chk3 {i n : Int32} {v : Value} {M : zM} (hv : v = .null ∨ v = .ref 3000) (h0 : ¬ i < 0) (h1 : i < n) : zRuns yJ3_checkIndex_8e157 cJ3_checkIndex_8e157 3 (some .int) 0 0 [.int i, .int n, v] M (some (.int i)) M := by
  refine zRuns_of (by decide +kernel) (by rcases hv with rfl | rfl <;> exact Nat.le_of_ble_eq_true rfl) (fun E Z hE => ?_)
  have hl : lv_args 0 [.int i, .int n, v] = [(0, Value.int i), (1, Value.int n), (2, v)] := rfl
  rw [hl]
  refine V_iload_n 0 Z rfl rfl (show decode cJ3_checkIndex_8e157 0 = .ok (.iload_n 0, 1) by decide +kernel) ?_
  refine V_if_lt 9 Z (by decide) (show decode cJ3_checkIndex_8e157 1 = .ok (.ifCond .lt 8, 3) by decide +kernel) (fun c => absurd c h0) (fun _ => ?_)
  refine V_iload_n 0 Z rfl rfl (show decode cJ3_checkIndex_8e157 4 = .ok (.iload_n 0, 1) by decide +kernel) ?_
  refine V_iload_n 1 Z rfl rfl (show decode cJ3_checkIndex_8e157 5 = .ok (.iload_n 1, 1) by decide +kernel) ?_
  refine V_icmp_lt 16 Z (by decide) (show decode cJ3_checkIndex_8e157 6 = .ok (.if_icmp .lt 10, 3) by decide +kernel) (fun _ => ?_) (fun c => absurd h1 c)
  refine V_iload_n 0 Z rfl rfl (show decode cJ3_checkIndex_8e157 16 = .ok (.iload_n 0, 1) by decide +kernel) ?_
  exact V_iret Z hE (show decode cJ3_checkIndex_8e157 17 = .ok (.ireturn, 1) by decide +kernel)
theorem ok_chk {i n : Int32} {M : zM} (h0 : ¬ i < 0) (h1 : i < n) : zRuns yJ0_checkIndex_df160 cJ0_checkIndex_df160 2 none 1 22 [.int i, .int n] M none M := by
  refine zRuns_of (by decide +kernel) (Nat.le_of_ble_eq_true rfl) (fun E Z hE => ?_)
  change VV E 2 0 [(0, Value.int i), (1, Value.int n)] [] M
  refine V_iload_n 0 Z rfl rfl (show decode cJ0_checkIndex_df160 0 = .ok (.iload_n 0, 1) by decide +kernel) ?_
  refine V_iload_n 1 Z rfl rfl (show decode cJ0_checkIndex_df160 1 = .ok (.iload_n 1, 1) by decide +kernel) ?_
  refine V_sioobe Z w626 (show decode cJ0_checkIndex_df160 2 = .ok (.getstatic 1053, 3) by decide +kernel) (fun v hv => ?_)
  refine V_callS (rest := []) 3 Z (ok_chk3 hv h0 h1) cd_chk3 w628 w629 rfl (show decode cJ0_checkIndex_df160 5 = .ok (.invokestatic 1059, 3) by decide +kernel) rfl ?_
  refine V_pop rfl Z (show decode cJ0_checkIndex_df160 8 = .ok (.pop, 1) by decide +kernel) ?_
  exact V_vret Z hE (show decode cJ0_checkIndex_df160 9 = .ok (.return_, 1) by decide +kernel)
theorem zByt_ok : ∀ w, w < 13 → zLen.getD w 0 < 100 ∧ (zByt.getD w []).length = zLen.getD w 0 ∧ ∀ b ∈ zByt.getD w [], ((b &&& 255).toUInt32 % 65536).toInt32 = b ∧ vp_nar .char b = b := by decide +kernel
theorem zsc_lt {w : Nat} (hw : w < 13) {i v : Int32} (hv : zsc w i = some v) : ¬ i < 0 ∧ i < zsl w ∧ ((v &&& 255).toUInt32 % 65536).toInt32 = v ∧ narrow .char (.int v) = .int v := by
  unfold zsc at hv
  split at hv
  · cases hv
  · rename_i hin
    obtain ⟨h1, h2, h3⟩ := zByt_ok w hw
    have hlt : i.toNatClampNeg < zLen.getD w 0 := Nat.not_le.mp fun q => hin (Or.inr q)
    obtain ⟨j, hj, rfl⟩ := nI_of (fun q => hin (Or.inl q))
    rw [nI_clamp hj] at hlt hv
    cases hv
    have hb := h3 ((zByt.getD w []).getD j 0) (by rw [List.getD_eq_getElem?_getD, List.getElem?_eq_getElem (by omega)]; exact List.getElem_mem _)
    refine ⟨nI_pos hj, nI_lt hlt (by omega), hb.1, ?_⟩
    have e := pk_nc ((zByt.getD w []).getD j 0 &&& 255)
    rw [hb.1] at e
    exact e
theorem ok_charAt1 {w : Nat} {i v : Int32} {M : zM} (hw : w < 13) (hv : zsc w i = some v) : zRuns yJ1_charAt_3b067 cJ1_charAt_3b067 2 (some .char) 2 43 [.ref (2000 + w), .int i] M (some (.int v)) M := by
  obtain ⟨h0, h1, h2, h3⟩ := zsc_lt hw hv
  refine zRuns_of (by decide +kernel) (Nat.le_of_ble_eq_true rfl) (fun E Z hE => ?_)
  change VV E 2 0 [(0, Value.ref (2000 + w)), (1, Value.int i)] [] M
  refine V_iload_n 1 Z rfl rfl (show decode cJ1_charAt_3b067 0 = .ok (.iload_n 1, 1) by decide +kernel) ?_
  refine V_aload_n 0 Z rfl rfl (show decode cJ1_charAt_3b067 1 = .ok (.aload_n 0, 1) by decide +kernel) ?_
  refine V_blen Z hw (show decode cJ1_charAt_3b067 2 = .ok (.arraylength, 1) by decide +kernel) ?_
  refine V_callS (rest := []) 2 Z (ok_chk h0 h1) cd_chk w623 w624 rfl (show decode cJ1_charAt_3b067 3 = .ok (.invokestatic 9, 3) by decide +kernel) rfl ?_
  refine V_aload_n 0 Z rfl rfl (show decode cJ1_charAt_3b067 6 = .ok (.aload_n 0, 1) by decide +kernel) ?_
  refine V_iload_n 1 Z rfl rfl (show decode cJ1_charAt_3b067 7 = .ok (.iload_n 1, 1) by decide +kernel) ?_
  refine V_bald Z hw hv (show decode cJ1_charAt_3b067 8 = .ok (.baload, 1) by decide +kernel) ?_
  refine V_sipush 255 (by decide) Z (show decode cJ1_charAt_3b067 9 = .ok (.sipush 255, 3) by decide +kernel) ?_
  refine V_iand Z (show decode cJ1_charAt_3b067 12 = .ok (.iand, 1) by decide +kernel) ?_
  refine V_i2c Z (show decode cJ1_charAt_3b067 13 = .ok (.i2c, 1) by decide +kernel) ?_
  refine V_nm h2 ?_
  exact V_nret Z h3 hE (show decode cJ1_charAt_3b067 14 = .ok (.ireturn, 1) by decide +kernel)
theorem ok_charAt {w : Nat} {i v : Int32} {M : zM} (hw : w < 13) (hv : zsc w i = some v) : zRuns yJ0_charAt_5068e cJ0_charAt_5068e 2 (some .char) 3 64 [.ref (1000 + w), .int i] M (some (.int v)) M := by
  obtain ⟨h0, h1, h2, h3⟩ := zsc_lt hw hv
  refine zRuns_of (by decide +kernel) (Nat.le_of_ble_eq_true rfl) (fun E Z hE => ?_)
  change VV E 2 0 [(0, Value.ref (1000 + w)), (1, Value.int i)] [] M
  refine V_aload_n 0 Z rfl rfl (show decode cJ0_charAt_5068e 0 = .ok (.aload_n 0, 1) by decide +kernel) ?_
  refine V_callW (rest := []) 0 Z hw (ok_isLatin1 hw) cd_isLatin1 rfl w616 w617 w618 rfl (show decode cJ0_charAt_5068e 1 = .ok (.invokevirtual 492, 3) by decide +kernel) ⟨by decide, by decide, rfl, Nat.le_of_ble_eq_true rfl⟩ ?_
  refine V_if_eq 16 Z (by decide) (show decode cJ0_charAt_5068e 4 = .ok (.ifCond .eq 12, 3) by decide +kernel) (fun c => absurd c (by decide)) (fun _ => ?_)
  refine V_aload_n 0 Z rfl rfl (show decode cJ0_charAt_5068e 7 = .ok (.aload_n 0, 1) by decide +kernel) ?_
  refine V_strval Z hw w1274 (show decode cJ0_charAt_5068e 8 = .ok (.getfield 9, 3) by decide +kernel) ?_
  refine V_iload_n 1 Z rfl rfl (show decode cJ0_charAt_5068e 11 = .ok (.iload_n 1, 1) by decide +kernel) ?_
  refine V_callS (rest := []) 2 Z (ok_charAt1 hw hv) cd_charAt1 w620 w621 rfl (show decode cJ0_charAt_5068e 12 = .ok (.invokestatic 495, 3) by decide +kernel) rfl ?_
  exact V_nret Z h3 hE (show decode cJ0_charAt_5068e 15 = .ok (.ireturn, 1) by decide +kernel)
section ZS2
variable {E : zEv} {cc : ByteArray} {nL pc fr lo : Nat} {own : String} {L : List (Nat × Value)} {S : List Value} {M : zM}
theorem z_sum (rest : List Value) : rest.map (fun v => v.category) = rest.map fun v => v.category := rfl
theorem V_strlen {w index : Nat} (Z : zC E cc nL own fr lo) (hw : w < 13) (hl : Cond.methodLink own index ⟨"java/lang/String", "length", "()I"⟩ ∈ zTB) (hd : decode cc pc = .ok (.invokevirtual index, 3)) (hR : (decide (6 ≤ fr) && decide ((S.map fun v => v.category).sum + 160 ≤ lo) && decide ((S.map fun v => v.category).sum ≤ 8)) = true) (k : VV E nL (pc + 3) L (.int (zsl w) :: S) M) : VV E nL pc L (.ref (1000 + w) :: S) M := by
  simp only [Bool.and_eq_true, decide_eq_true_eq] at hR
  exact V_callW (As := []) 0 Z hw (ok_length hw) cd_length rfl hl w603 w604 rfl hd ⟨by omega, by omega, rfl, hR.2⟩ k
theorem V_strchar {w index : Nat} {i v : Int32} (Z : zC E cc nL own fr lo) (hw : w < 13) (hv : zsc w i = some v) (hl : Cond.methodLink own index ⟨"java/lang/String", "charAt", "(I)C"⟩ ∈ zTB) (hd : decode cc pc = .ok (.invokevirtual index, 3)) (hR : (decide (6 ≤ fr) && decide ((S.map fun v => v.category).sum + 160 ≤ lo) && decide ((S.map fun v => v.category).sum ≤ 8)) = true) (k : VV E nL (pc + 3) L (.int v :: S) M) : VV E nL pc L (.int i :: .ref (1000 + w) :: S) M := by
  simp only [Bool.and_eq_true, decide_eq_true_eq] at hR
  exact V_callW (As := [.int i]) 1 Z hw (ok_charAt hw hv) cd_charAt rfl hl w613 w614 rfl hd ⟨by omega, by omega, rfl, hR.2⟩ k
end ZS2
end
