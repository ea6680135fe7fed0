section
-- ===== PART A: goes FIRST, ahead of the names: the tables' words, and 'selects' of the private methods out of them =====
/-- a private method of a class that the tables say can be made, by its rows of tables_1 -/
def lw_okq (q : MethodName × Nat) : Prop := (q.1.cls ≠ "java/lang/invoke/MethodHandle" ∧ q.1.cls ≠ "java/lang/invoke/VarHandle") ∧ Cond.instantiable q.1.cls q.2 ∈ tables_1 ∧ Cond.privateMethod q.1 ∈ tables_1 ∧ Cond.instanceMethod q.1 ∈ tables_1
theorem lw_p0 : lw_okq (⟨"NameRail", "finding", "(I)I"⟩, 8) := ⟨⟨by decide +kernel, by decide +kernel⟩, List.mem_of_getElem? (i := 16) (by decide +kernel), List.mem_of_getElem? (i := 186) (by decide +kernel), List.mem_of_getElem? (i := 187) (by decide +kernel)⟩
theorem lw_p1 : lw_okq (⟨"NameRail", "isName", "(I)Z"⟩, 8) := ⟨⟨by decide +kernel, by decide +kernel⟩, List.mem_of_getElem? (i := 16) (by decide +kernel), List.mem_of_getElem? (i := 199) (by decide +kernel), List.mem_of_getElem? (i := 200) (by decide +kernel)⟩
theorem lw_p2 : lw_okq (⟨"NameRail", "changed", "([IIIZ)I"⟩, 8) := ⟨⟨by decide +kernel, by decide +kernel⟩, List.mem_of_getElem? (i := 16) (by decide +kernel), List.mem_of_getElem? (i := 225) (by decide +kernel), List.mem_of_getElem? (i := 226) (by decide +kernel)⟩
theorem lw_p3 : lw_okq (⟨"NameRail", "isNameOrNone", "(I)Z"⟩, 8) := ⟨⟨by decide +kernel, by decide +kernel⟩, List.mem_of_getElem? (i := 16) (by decide +kernel), List.mem_of_getElem? (i := 230) (by decide +kernel), List.mem_of_getElem? (i := 231) (by decide +kernel)⟩
theorem lw_p4 : lw_okq (⟨"NameRail", "richestWith", "(II)I"⟩, 8) := ⟨⟨by decide +kernel, by decide +kernel⟩, List.mem_of_getElem? (i := 16) (by decide +kernel), List.mem_of_getElem? (i := 435) (by decide +kernel), List.mem_of_getElem? (i := 436) (by decide +kernel)⟩
theorem lw_p5 : lw_okq (⟨"NameRail", "faultOfFit", "(II)I"⟩, 8) := ⟨⟨by decide +kernel, by decide +kernel⟩, List.mem_of_getElem? (i := 16) (by decide +kernel), List.mem_of_getElem? (i := 447) (by decide +kernel), List.mem_of_getElem? (i := 448) (by decide +kernel)⟩
theorem lw_p6 : lw_okq (⟨"NameRail", "fitting", "(LNameRail$Sheet;I)I"⟩, 8) := ⟨⟨by decide +kernel, by decide +kernel⟩, List.mem_of_getElem? (i := 16) (by decide +kernel), List.mem_of_getElem? (i := 454) (by decide +kernel), List.mem_of_getElem? (i := 455) (by decide +kernel)⟩
theorem lw_p7 : lw_okq (⟨"NameRail$Reader", "step", "()V"⟩, 5) := ⟨⟨by decide +kernel, by decide +kernel⟩, List.mem_of_getElem? (i := 110) (by decide +kernel), List.mem_of_getElem? (i := 504) (by decide +kernel), List.mem_of_getElem? (i := 505) (by decide +kernel)⟩
theorem lw_p8 : lw_okq (⟨"NameRail$Reader", "stepWord", "()V"⟩, 5) := ⟨⟨by decide +kernel, by decide +kernel⟩, List.mem_of_getElem? (i := 110) (by decide +kernel), List.mem_of_getElem? (i := 515) (by decide +kernel), List.mem_of_getElem? (i := 516) (by decide +kernel)⟩
theorem lw_p9 : lw_okq (⟨"NameRail$Reader", "stepNumber", "()V"⟩, 5) := ⟨⟨by decide +kernel, by decide +kernel⟩, List.mem_of_getElem? (i := 110) (by decide +kernel), List.mem_of_getElem? (i := 522) (by decide +kernel), List.mem_of_getElem? (i := 523) (by decide +kernel)⟩
theorem lw_p10 : lw_okq (⟨"NameRail$Reader", "item", "(LNameRail$House;)Z"⟩, 5) := ⟨⟨by decide +kernel, by decide +kernel⟩, List.mem_of_getElem? (i := 110) (by decide +kernel), List.mem_of_getElem? (i := 527) (by decide +kernel), List.mem_of_getElem? (i := 528) (by decide +kernel)⟩
theorem lw_p11 : lw_okq (⟨"NameRail$Reader", "kindTold", "()I"⟩, 5) := ⟨⟨by decide +kernel, by decide +kernel⟩, List.mem_of_getElem? (i := 110) (by decide +kernel), List.mem_of_getElem? (i := 531) (by decide +kernel), List.mem_of_getElem? (i := 532) (by decide +kernel)⟩
theorem lw_p12 : lw_okq (⟨"NameRail$Reader", "isWord", "(Ljava/lang/String;)Z"⟩, 5) := ⟨⟨by decide +kernel, by decide +kernel⟩, List.mem_of_getElem? (i := 110) (by decide +kernel), List.mem_of_getElem? (i := 536) (by decide +kernel), List.mem_of_getElem? (i := 537) (by decide +kernel)⟩
theorem lw_p13 : lw_okq (⟨"NameRail$Reader", "nameItem", "(LNameRail$House;I)Z"⟩, 5) := ⟨⟨by decide +kernel, by decide +kernel⟩, List.mem_of_getElem? (i := 110) (by decide +kernel), List.mem_of_getElem? (i := 594) (by decide +kernel), List.mem_of_getElem? (i := 595) (by decide +kernel)⟩
theorem lw_p14 : lw_okq (⟨"NameRail$Reader", "isNumberTo", "(I)Z"⟩, 5) := ⟨⟨by decide +kernel, by decide +kernel⟩, List.mem_of_getElem? (i := 110) (by decide +kernel), List.mem_of_getElem? (i := 598) (by decide +kernel), List.mem_of_getElem? (i := 599) (by decide +kernel)⟩
theorem lw_p15 : lw_okq (⟨"NameRail$Reader", "personItem", "(LNameRail$House;)Z"⟩, 5) := ⟨⟨by decide +kernel, by decide +kernel⟩, List.mem_of_getElem? (i := 110) (by decide +kernel), List.mem_of_getElem? (i := 606) (by decide +kernel), List.mem_of_getElem? (i := 607) (by decide +kernel)⟩
def lw_privs_1 : List (MethodName × Nat) := [(⟨"NameRail", "finding", "(I)I"⟩, 8), (⟨"NameRail", "isName", "(I)Z"⟩, 8), (⟨"NameRail", "changed", "([IIIZ)I"⟩, 8), (⟨"NameRail", "isNameOrNone", "(I)Z"⟩, 8), (⟨"NameRail", "richestWith", "(II)I"⟩, 8), (⟨"NameRail", "faultOfFit", "(II)I"⟩, 8), (⟨"NameRail", "fitting", "(LNameRail$Sheet;I)I"⟩, 8), (⟨"NameRail$Reader", "step", "()V"⟩, 5), (⟨"NameRail$Reader", "stepWord", "()V"⟩, 5), (⟨"NameRail$Reader", "stepNumber", "()V"⟩, 5), (⟨"NameRail$Reader", "item", "(LNameRail$House;)Z"⟩, 5), (⟨"NameRail$Reader", "kindTold", "()I"⟩, 5), (⟨"NameRail$Reader", "isWord", "(Ljava/lang/String;)Z"⟩, 5), (⟨"NameRail$Reader", "nameItem", "(LNameRail$House;I)Z"⟩, 5), (⟨"NameRail$Reader", "isNumberTo", "(I)Z"⟩, 5), (⟨"NameRail$Reader", "personItem", "(LNameRail$House;)Z"⟩, 5)]
theorem lw_r1 : ∀ q ∈ lw_privs_1, lw_okq q := List.forall_mem_cons.mpr ⟨lw_p0, List.forall_mem_cons.mpr ⟨lw_p1, List.forall_mem_cons.mpr ⟨lw_p2, List.forall_mem_cons.mpr ⟨lw_p3, List.forall_mem_cons.mpr ⟨lw_p4, List.forall_mem_cons.mpr ⟨lw_p5, List.forall_mem_cons.mpr ⟨lw_p6, List.forall_mem_cons.mpr ⟨lw_p7, List.forall_mem_cons.mpr ⟨lw_p8, List.forall_mem_cons.mpr ⟨lw_p9, List.forall_mem_cons.mpr ⟨lw_p10, List.forall_mem_cons.mpr ⟨lw_p11, List.forall_mem_cons.mpr ⟨lw_p12, List.forall_mem_cons.mpr ⟨lw_p13, List.forall_mem_cons.mpr ⟨lw_p14, List.forall_mem_cons.mpr ⟨lw_p15, fun _ h => absurd h List.not_mem_nil⟩⟩⟩⟩⟩⟩⟩⟩⟩⟩⟩⟩⟩⟩⟩⟩
theorem lw_p16 : lw_okq (⟨"NameRail$Reader", "orderItem", "(LNameRail$House;)Z"⟩, 5) := ⟨⟨by decide +kernel, by decide +kernel⟩, List.mem_of_getElem? (i := 110) (by decide +kernel), List.mem_of_getElem? (i := 613) (by decide +kernel), List.mem_of_getElem? (i := 614) (by decide +kernel)⟩
theorem lw_p17 : lw_okq (⟨"NameRailModel", "finding", "(I)I"⟩, 22) := ⟨⟨by decide +kernel, by decide +kernel⟩, List.mem_of_getElem? (i := 689) (by decide +kernel), List.mem_of_getElem? (i := 782) (by decide +kernel), List.mem_of_getElem? (i := 783) (by decide +kernel)⟩
theorem lw_p18 : lw_okq (⟨"NameRailModel", "comes", "(IIII)I"⟩, 22) := ⟨⟨by decide +kernel, by decide +kernel⟩, List.mem_of_getElem? (i := 689) (by decide +kernel), List.mem_of_getElem? (i := 787) (by decide +kernel), List.mem_of_getElem? (i := 788) (by decide +kernel)⟩
theorem lw_p19 : lw_okq (⟨"NameRailModel", "isName", "(I)Z"⟩, 22) := ⟨⟨by decide +kernel, by decide +kernel⟩, List.mem_of_getElem? (i := 689) (by decide +kernel), List.mem_of_getElem? (i := 798) (by decide +kernel), List.mem_of_getElem? (i := 799) (by decide +kernel)⟩
theorem lw_p20 : lw_okq (⟨"NameRailModel", "dueOf", "(I)I"⟩, 22) := ⟨⟨by decide +kernel, by decide +kernel⟩, List.mem_of_getElem? (i := 689) (by decide +kernel), List.mem_of_getElem? (i := 802) (by decide +kernel), List.mem_of_getElem? (i := 803) (by decide +kernel)⟩
theorem lw_p21 : lw_okq (⟨"NameRailModel", "nameIs", "(II)I"⟩, 22) := ⟨⟨by decide +kernel, by decide +kernel⟩, List.mem_of_getElem? (i := 689) (by decide +kernel), List.mem_of_getElem? (i := 806) (by decide +kernel), List.mem_of_getElem? (i := 807) (by decide +kernel)⟩
theorem lw_p22 : lw_okq (⟨"NameRailModel", "fadesBy", "(I)I"⟩, 22) := ⟨⟨by decide +kernel, by decide +kernel⟩, List.mem_of_getElem? (i := 689) (by decide +kernel), List.mem_of_getElem? (i := 810) (by decide +kernel), List.mem_of_getElem? (i := 811) (by decide +kernel)⟩
theorem lw_p23 : lw_okq (⟨"NameRailModel", "hangs", "(I)Z"⟩, 22) := ⟨⟨by decide +kernel, by decide +kernel⟩, List.mem_of_getElem? (i := 689) (by decide +kernel), List.mem_of_getElem? (i := 814) (by decide +kernel), List.mem_of_getElem? (i := 815) (by decide +kernel)⟩
theorem lw_p24 : lw_okq (⟨"NameRailModel", "foesOf", "(I)I"⟩, 22) := ⟨⟨by decide +kernel, by decide +kernel⟩, List.mem_of_getElem? (i := 689) (by decide +kernel), List.mem_of_getElem? (i := 818) (by decide +kernel), List.mem_of_getElem? (i := 819) (by decide +kernel)⟩
theorem lw_p25 : lw_okq (⟨"NameRailModel", "doQuarrel", "(II)Z"⟩, 22) := ⟨⟨by decide +kernel, by decide +kernel⟩, List.mem_of_getElem? (i := 689) (by decide +kernel), List.mem_of_getElem? (i := 822) (by decide +kernel), List.mem_of_getElem? (i := 823) (by decide +kernel)⟩
theorem lw_p26 : lw_okq (⟨"NameRailModel", "mayBe", "(III)Z"⟩, 22) := ⟨⟨by decide +kernel, by decide +kernel⟩, List.mem_of_getElem? (i := 689) (by decide +kernel), List.mem_of_getElem? (i := 830) (by decide +kernel), List.mem_of_getElem? (i := 831) (by decide +kernel)⟩
theorem lw_p27 : lw_okq (⟨"NameRailModel", "become", "(II)I"⟩, 22) := ⟨⟨by decide +kernel, by decide +kernel⟩, List.mem_of_getElem? (i := 689) (by decide +kernel), List.mem_of_getElem? (i := 835) (by decide +kernel), List.mem_of_getElem? (i := 836) (by decide +kernel)⟩
theorem lw_p28 : lw_okq (⟨"NameRailModel", "placeOf", "(I)I"⟩, 22) := ⟨⟨by decide +kernel, by decide +kernel⟩, List.mem_of_getElem? (i := 689) (by decide +kernel), List.mem_of_getElem? (i := 853) (by decide +kernel), List.mem_of_getElem? (i := 854) (by decide +kernel)⟩
theorem lw_p29 : lw_okq (⟨"NameRailModel", "days", "(I)V"⟩, 22) := ⟨⟨by decide +kernel, by decide +kernel⟩, List.mem_of_getElem? (i := 689) (by decide +kernel), List.mem_of_getElem? (i := 880) (by decide +kernel), List.mem_of_getElem? (i := 881) (by decide +kernel)⟩
theorem lw_p30 : lw_okq (⟨"NameRailModel", "day", "()V"⟩, 22) := ⟨⟨by decide +kernel, by decide +kernel⟩, List.mem_of_getElem? (i := 689) (by decide +kernel), List.mem_of_getElem? (i := 884) (by decide +kernel), List.mem_of_getElem? (i := 885) (by decide +kernel)⟩
theorem lw_p31 : lw_okq (⟨"NameRailModel", "drawBy", "(I)I"⟩, 22) := ⟨⟨by decide +kernel, by decide +kernel⟩, List.mem_of_getElem? (i := 689) (by decide +kernel), List.mem_of_getElem? (i := 888) (by decide +kernel), List.mem_of_getElem? (i := 889) (by decide +kernel)⟩
def lw_privs_2 : List (MethodName × Nat) := [(⟨"NameRail$Reader", "orderItem", "(LNameRail$House;)Z"⟩, 5), (⟨"NameRailModel", "finding", "(I)I"⟩, 22), (⟨"NameRailModel", "comes", "(IIII)I"⟩, 22), (⟨"NameRailModel", "isName", "(I)Z"⟩, 22), (⟨"NameRailModel", "dueOf", "(I)I"⟩, 22), (⟨"NameRailModel", "nameIs", "(II)I"⟩, 22), (⟨"NameRailModel", "fadesBy", "(I)I"⟩, 22), (⟨"NameRailModel", "hangs", "(I)Z"⟩, 22), (⟨"NameRailModel", "foesOf", "(I)I"⟩, 22), (⟨"NameRailModel", "doQuarrel", "(II)Z"⟩, 22), (⟨"NameRailModel", "mayBe", "(III)Z"⟩, 22), (⟨"NameRailModel", "become", "(II)I"⟩, 22), (⟨"NameRailModel", "placeOf", "(I)I"⟩, 22), (⟨"NameRailModel", "days", "(I)V"⟩, 22), (⟨"NameRailModel", "day", "()V"⟩, 22), (⟨"NameRailModel", "drawBy", "(I)I"⟩, 22)]
theorem lw_r2 : ∀ q ∈ lw_privs_2, lw_okq q := List.forall_mem_cons.mpr ⟨lw_p16, List.forall_mem_cons.mpr ⟨lw_p17, List.forall_mem_cons.mpr ⟨lw_p18, List.forall_mem_cons.mpr ⟨lw_p19, List.forall_mem_cons.mpr ⟨lw_p20, List.forall_mem_cons.mpr ⟨lw_p21, List.forall_mem_cons.mpr ⟨lw_p22, List.forall_mem_cons.mpr ⟨lw_p23, List.forall_mem_cons.mpr ⟨lw_p24, List.forall_mem_cons.mpr ⟨lw_p25, List.forall_mem_cons.mpr ⟨lw_p26, List.forall_mem_cons.mpr ⟨lw_p27, List.forall_mem_cons.mpr ⟨lw_p28, List.forall_mem_cons.mpr ⟨lw_p29, List.forall_mem_cons.mpr ⟨lw_p30, List.forall_mem_cons.mpr ⟨lw_p31, fun _ h => absurd h List.not_mem_nil⟩⟩⟩⟩⟩⟩⟩⟩⟩⟩⟩⟩⟩⟩⟩⟩
theorem lw_p32 : lw_okq (⟨"NameRailModel", "leastLeft", "(I)I"⟩, 22) := ⟨⟨by decide +kernel, by decide +kernel⟩, List.mem_of_getElem? (i := 689) (by decide +kernel), List.mem_of_getElem? (i := 892) (by decide +kernel), List.mem_of_getElem? (i := 893) (by decide +kernel)⟩
theorem lw_p33 : lw_okq (⟨"NameRailModel", "pays", "(I)V"⟩, 22) := ⟨⟨by decide +kernel, by decide +kernel⟩, List.mem_of_getElem? (i := 689) (by decide +kernel), List.mem_of_getElem? (i := 896) (by decide +kernel), List.mem_of_getElem? (i := 897) (by decide +kernel)⟩
theorem lw_p34 : lw_okq (⟨"NameRailModel", "quarrelsIn", "(I)I"⟩, 22) := ⟨⟨by decide +kernel, by decide +kernel⟩, List.mem_of_getElem? (i := 689) (by decide +kernel), List.mem_of_getElem? (i := 901) (by decide +kernel), List.mem_of_getElem? (i := 902) (by decide +kernel)⟩
theorem lw_p35 : lw_okq (⟨"NameRailModel", "purses", "()I"⟩, 22) := ⟨⟨by decide +kernel, by decide +kernel⟩, List.mem_of_getElem? (i := 689) (by decide +kernel), List.mem_of_getElem? (i := 905) (by decide +kernel), List.mem_of_getElem? (i := 906) (by decide +kernel)⟩
theorem lw_p36 : lw_okq (⟨"NameRailModel", "hungNow", "()I"⟩, 22) := ⟨⟨by decide +kernel, by decide +kernel⟩, List.mem_of_getElem? (i := 689) (by decide +kernel), List.mem_of_getElem? (i := 913) (by decide +kernel), List.mem_of_getElem? (i := 914) (by decide +kernel)⟩
theorem lw_p37 : lw_okq (⟨"NameRailModel", "debts", "()I"⟩, 22) := ⟨⟨by decide +kernel, by decide +kernel⟩, List.mem_of_getElem? (i := 689) (by decide +kernel), List.mem_of_getElem? (i := 917) (by decide +kernel), List.mem_of_getElem? (i := 918) (by decide +kernel)⟩
theorem lw_p38 : lw_okq (⟨"NameRailModel", "behind", "(II)I"⟩, 22) := ⟨⟨by decide +kernel, by decide +kernel⟩, List.mem_of_getElem? (i := 689) (by decide +kernel), List.mem_of_getElem? (i := 933) (by decide +kernel), List.mem_of_getElem? (i := 934) (by decide +kernel)⟩
theorem lw_p39 : lw_okq (⟨"NameRailModel", "putBack", "(I)I"⟩, 22) := ⟨⟨by decide +kernel, by decide +kernel⟩, List.mem_of_getElem? (i := 689) (by decide +kernel), List.mem_of_getElem? (i := 940) (by decide +kernel), List.mem_of_getElem? (i := 941) (by decide +kernel)⟩
theorem lw_p40 : lw_okq (⟨"NameRailModel", "hungFor", "(I)I"⟩, 22) := ⟨⟨by decide +kernel, by decide +kernel⟩, List.mem_of_getElem? (i := 689) (by decide +kernel), List.mem_of_getElem? (i := 952) (by decide +kernel), List.mem_of_getElem? (i := 953) (by decide +kernel)⟩
theorem lw_p41 : lw_okq (⟨"NameRailModel", "orNone", "(I)I"⟩, 22) := ⟨⟨by decide +kernel, by decide +kernel⟩, List.mem_of_getElem? (i := 689) (by decide +kernel), List.mem_of_getElem? (i := 961) (by decide +kernel), List.mem_of_getElem? (i := 962) (by decide +kernel)⟩
theorem lw_p42 : lw_okq (⟨"NameRailModel", "doesDraw", "(III)Z"⟩, 22) := ⟨⟨by decide +kernel, by decide +kernel⟩, List.mem_of_getElem? (i := 689) (by decide +kernel), List.mem_of_getElem? (i := 977) (by decide +kernel), List.mem_of_getElem? (i := 978) (by decide +kernel)⟩
theorem lw_p43 : lw_okq (⟨"NameRailModel", "leastOrder", "(Z)I"⟩, 22) := ⟨⟨by decide +kernel, by decide +kernel⟩, List.mem_of_getElem? (i := 689) (by decide +kernel), List.mem_of_getElem? (i := 989) (by decide +kernel), List.mem_of_getElem? (i := 990) (by decide +kernel)⟩
theorem lw_p44 : lw_okq (⟨"NameRailModel", "duesIn", "(I)I"⟩, 22) := ⟨⟨by decide +kernel, by decide +kernel⟩, List.mem_of_getElem? (i := 689) (by decide +kernel), List.mem_of_getElem? (i := 994) (by decide +kernel), List.mem_of_getElem? (i := 995) (by decide +kernel)⟩
theorem lw_p45 : lw_okq (⟨"NameRailModel", "greatest", "(IIIII)I"⟩, 22) := ⟨⟨by decide +kernel, by decide +kernel⟩, List.mem_of_getElem? (i := 689) (by decide +kernel), List.mem_of_getElem? (i := 1006) (by decide +kernel), List.mem_of_getElem? (i := 1007) (by decide +kernel)⟩
theorem lw_p46 : lw_okq (⟨"NameRailModel", "isPeace", "(I)Z"⟩, 22) := ⟨⟨by decide +kernel, by decide +kernel⟩, List.mem_of_getElem? (i := 689) (by decide +kernel), List.mem_of_getElem? (i := 1021) (by decide +kernel), List.mem_of_getElem? (i := 1022) (by decide +kernel)⟩
theorem lw_p47 : lw_okq (⟨"NameRailModel", "pursesBy", "(II)I"⟩, 22) := ⟨⟨by decide +kernel, by decide +kernel⟩, List.mem_of_getElem? (i := 689) (by decide +kernel), List.mem_of_getElem? (i := 1037) (by decide +kernel), List.mem_of_getElem? (i := 1038) (by decide +kernel)⟩
def lw_privs_3 : List (MethodName × Nat) := [(⟨"NameRailModel", "leastLeft", "(I)I"⟩, 22), (⟨"NameRailModel", "pays", "(I)V"⟩, 22), (⟨"NameRailModel", "quarrelsIn", "(I)I"⟩, 22), (⟨"NameRailModel", "purses", "()I"⟩, 22), (⟨"NameRailModel", "hungNow", "()I"⟩, 22), (⟨"NameRailModel", "debts", "()I"⟩, 22), (⟨"NameRailModel", "behind", "(II)I"⟩, 22), (⟨"NameRailModel", "putBack", "(I)I"⟩, 22), (⟨"NameRailModel", "hungFor", "(I)I"⟩, 22), (⟨"NameRailModel", "orNone", "(I)I"⟩, 22), (⟨"NameRailModel", "doesDraw", "(III)Z"⟩, 22), (⟨"NameRailModel", "leastOrder", "(Z)I"⟩, 22), (⟨"NameRailModel", "duesIn", "(I)I"⟩, 22), (⟨"NameRailModel", "greatest", "(IIIII)I"⟩, 22), (⟨"NameRailModel", "isPeace", "(I)Z"⟩, 22), (⟨"NameRailModel", "pursesBy", "(II)I"⟩, 22)]
theorem lw_r3 : ∀ q ∈ lw_privs_3, lw_okq q := List.forall_mem_cons.mpr ⟨lw_p32, List.forall_mem_cons.mpr ⟨lw_p33, List.forall_mem_cons.mpr ⟨lw_p34, List.forall_mem_cons.mpr ⟨lw_p35, List.forall_mem_cons.mpr ⟨lw_p36, List.forall_mem_cons.mpr ⟨lw_p37, List.forall_mem_cons.mpr ⟨lw_p38, List.forall_mem_cons.mpr ⟨lw_p39, List.forall_mem_cons.mpr ⟨lw_p40, List.forall_mem_cons.mpr ⟨lw_p41, List.forall_mem_cons.mpr ⟨lw_p42, List.forall_mem_cons.mpr ⟨lw_p43, List.forall_mem_cons.mpr ⟨lw_p44, List.forall_mem_cons.mpr ⟨lw_p45, List.forall_mem_cons.mpr ⟨lw_p46, List.forall_mem_cons.mpr ⟨lw_p47, fun _ h => absurd h List.not_mem_nil⟩⟩⟩⟩⟩⟩⟩⟩⟩⟩⟩⟩⟩⟩⟩⟩
theorem lw_p48 : lw_okq (⟨"NameRailModel", "putBackPurses", "()I"⟩, 22) := ⟨⟨by decide +kernel, by decide +kernel⟩, List.mem_of_getElem? (i := 689) (by decide +kernel), List.mem_of_getElem? (i := 1041) (by decide +kernel), List.mem_of_getElem? (i := 1042) (by decide +kernel)⟩
theorem lw_p49 : lw_okq (⟨"NameRailModel", "lacks", "(I)I"⟩, 22) := ⟨⟨by decide +kernel, by decide +kernel⟩, List.mem_of_getElem? (i := 689) (by decide +kernel), List.mem_of_getElem? (i := 1053) (by decide +kernel), List.mem_of_getElem? (i := 1054) (by decide +kernel)⟩
theorem lw_p50 : lw_okq (⟨"NameRailModel", "fitting", "(II)I"⟩, 22) := ⟨⟨by decide +kernel, by decide +kernel⟩, List.mem_of_getElem? (i := 689) (by decide +kernel), List.mem_of_getElem? (i := 1061) (by decide +kernel), List.mem_of_getElem? (i := 1062) (by decide +kernel)⟩
theorem lw_p51 : lw_okq (⟨"NameRailModel", "wentSo", "(II)Z"⟩, 22) := ⟨⟨by decide +kernel, by decide +kernel⟩, List.mem_of_getElem? (i := 689) (by decide +kernel), List.mem_of_getElem? (i := 1065) (by decide +kernel), List.mem_of_getElem? (i := 1066) (by decide +kernel)⟩
theorem lw_p52 : lw_okq (⟨"NameRailModel", "drawnNumber", "()I"⟩, 22) := ⟨⟨by decide +kernel, by decide +kernel⟩, List.mem_of_getElem? (i := 689) (by decide +kernel), List.mem_of_getElem? (i := 1077) (by decide +kernel), List.mem_of_getElem? (i := 1078) (by decide +kernel)⟩
theorem lw_p53 : lw_okq (⟨"NameRailModel", "next", "()V"⟩, 22) := ⟨⟨by decide +kernel, by decide +kernel⟩, List.mem_of_getElem? (i := 689) (by decide +kernel), List.mem_of_getElem? (i := 1102) (by decide +kernel), List.mem_of_getElem? (i := 1103) (by decide +kernel)⟩
theorem lw_p54 : lw_okq (⟨"NameRailModel", "byteAt", "(I)I"⟩, 22) := ⟨⟨by decide +kernel, by decide +kernel⟩, List.mem_of_getElem? (i := 689) (by decide +kernel), List.mem_of_getElem? (i := 1106) (by decide +kernel), List.mem_of_getElem? (i := 1107) (by decide +kernel)⟩
theorem lw_p55 : lw_okq (⟨"NameRailModel", "readItem", "()V"⟩, 22) := ⟨⟨by decide +kernel, by decide +kernel⟩, List.mem_of_getElem? (i := 689) (by decide +kernel), List.mem_of_getElem? (i := 1110) (by decide +kernel), List.mem_of_getElem? (i := 1111) (by decide +kernel)⟩
theorem lw_p56 : lw_okq (⟨"NameRailModel", "kindTold", "()I"⟩, 22) := ⟨⟨by decide +kernel, by decide +kernel⟩, List.mem_of_getElem? (i := 689) (by decide +kernel), List.mem_of_getElem? (i := 1114) (by decide +kernel), List.mem_of_getElem? (i := 1115) (by decide +kernel)⟩
theorem lw_p57 : lw_okq (⟨"NameRailModel", "isWord", "(Ljava/lang/String;)Z"⟩, 22) := ⟨⟨by decide +kernel, by decide +kernel⟩, List.mem_of_getElem? (i := 689) (by decide +kernel), List.mem_of_getElem? (i := 1118) (by decide +kernel), List.mem_of_getElem? (i := 1119) (by decide +kernel)⟩
theorem lw_p58 : lw_okq (⟨"NameRailModel", "must", "(Z)V"⟩, 22) := ⟨⟨by decide +kernel, by decide +kernel⟩, List.mem_of_getElem? (i := 689) (by decide +kernel), List.mem_of_getElem? (i := 1124) (by decide +kernel), List.mem_of_getElem? (i := 1125) (by decide +kernel)⟩
theorem lw_p59 : lw_okq (⟨"NameRailModel", "number", "(II)I"⟩, 22) := ⟨⟨by decide +kernel, by decide +kernel⟩, List.mem_of_getElem? (i := 689) (by decide +kernel), List.mem_of_getElem? (i := 1128) (by decide +kernel), List.mem_of_getElem? (i := 1129) (by decide +kernel)⟩
theorem lw_p60 : lw_okq (⟨"NameRailModel", "afterWord", "(Ljava/lang/String;II)I"⟩, 22) := ⟨⟨by decide +kernel, by decide +kernel⟩, List.mem_of_getElem? (i := 689) (by decide +kernel), List.mem_of_getElem? (i := 1133) (by decide +kernel), List.mem_of_getElem? (i := 1134) (by decide +kernel)⟩
theorem lw_p61 : lw_okq (⟨"NameRailModel", "item", "(IIII)V"⟩, 22) := ⟨⟨by decide +kernel, by decide +kernel⟩, List.mem_of_getElem? (i := 689) (by decide +kernel), List.mem_of_getElem? (i := 1138) (by decide +kernel), List.mem_of_getElem? (i := 1139) (by decide +kernel)⟩
theorem lw_p62 : lw_okq (⟨"NameRailModel", "isToldSo", "(I)I"⟩, 22) := ⟨⟨by decide +kernel, by decide +kernel⟩, List.mem_of_getElem? (i := 689) (by decide +kernel), List.mem_of_getElem? (i := 1146) (by decide +kernel), List.mem_of_getElem? (i := 1147) (by decide +kernel)⟩
def lw_privs_4 : List (MethodName × Nat) := [(⟨"NameRailModel", "putBackPurses", "()I"⟩, 22), (⟨"NameRailModel", "lacks", "(I)I"⟩, 22), (⟨"NameRailModel", "fitting", "(II)I"⟩, 22), (⟨"NameRailModel", "wentSo", "(II)Z"⟩, 22), (⟨"NameRailModel", "drawnNumber", "()I"⟩, 22), (⟨"NameRailModel", "next", "()V"⟩, 22), (⟨"NameRailModel", "byteAt", "(I)I"⟩, 22), (⟨"NameRailModel", "readItem", "()V"⟩, 22), (⟨"NameRailModel", "kindTold", "()I"⟩, 22), (⟨"NameRailModel", "isWord", "(Ljava/lang/String;)Z"⟩, 22), (⟨"NameRailModel", "must", "(Z)V"⟩, 22), (⟨"NameRailModel", "number", "(II)I"⟩, 22), (⟨"NameRailModel", "afterWord", "(Ljava/lang/String;II)I"⟩, 22), (⟨"NameRailModel", "item", "(IIII)V"⟩, 22), (⟨"NameRailModel", "isToldSo", "(I)I"⟩, 22)]
theorem lw_r4 : ∀ q ∈ lw_privs_4, lw_okq q := List.forall_mem_cons.mpr ⟨lw_p48, List.forall_mem_cons.mpr ⟨lw_p49, List.forall_mem_cons.mpr ⟨lw_p50, List.forall_mem_cons.mpr ⟨lw_p51, List.forall_mem_cons.mpr ⟨lw_p52, List.forall_mem_cons.mpr ⟨lw_p53, List.forall_mem_cons.mpr ⟨lw_p54, List.forall_mem_cons.mpr ⟨lw_p55, List.forall_mem_cons.mpr ⟨lw_p56, List.forall_mem_cons.mpr ⟨lw_p57, List.forall_mem_cons.mpr ⟨lw_p58, List.forall_mem_cons.mpr ⟨lw_p59, List.forall_mem_cons.mpr ⟨lw_p60, List.forall_mem_cons.mpr ⟨lw_p61, List.forall_mem_cons.mpr ⟨lw_p62, fun _ h => absurd h List.not_mem_nil⟩⟩⟩⟩⟩⟩⟩⟩⟩⟩⟩⟩⟩⟩⟩
def lw_privs : List (MethodName × Nat) := lw_privs_1 ++ (lw_privs_2 ++ (lw_privs_3 ++ (lw_privs_4)))
def lw_tbl : List Cond := k2_sels lw_privs ++ tables_1
theorem lw_privs_ok : ∀ q ∈ lw_privs, lw_okq q := by
  show ∀ q ∈ lw_privs_1 ++ (lw_privs_2 ++ (lw_privs_3 ++ (lw_privs_4))), lw_okq q
  exact List.forall_mem_append.mpr ⟨lw_r1, List.forall_mem_append.mpr ⟨lw_r2, List.forall_mem_append.mpr ⟨lw_r3, lw_r4⟩⟩⟩

def RX0 : String := "NameRail$House"
def TX0 : u_T := fun k => match k with
  | 0 => ("NameRail$House", "names", "I", false)
  | 1 => ("NameRail$House", "kind", "[I", true)
  | 2 => ("NameRail$House", "duty", "[I", true)
  | 3 => ("NameRail$House", "wear", "[I", true)
  | 4 => ("NameRail$House", "debt", "[I", true)
  | 5 => ("NameRail$House", "foe", "[I", true)
  | 6 => ("NameRail$House", "purse", "[I", true)
  | 7 => ("NameRail$House", "wish", "[I", true)
  | 8 => ("NameRail$House", "spots", "[I", true)
  | 9 => ("NameRail$House", "order", "I", false)
  | 10 => ("NameRail$House", "day", "I", false)
  | 11 => ("NameRail$House", "quarrels", "I", false)
  | 12 => ("NameRail$House", "z", "I", false)
  | 13 => ("NameRail$House", "line", "[I", true)
  | _ => ("NameRail$House", "drawn", "[I", true)
def tyX0 : Nat → FieldType := fun k => match k with
  | 0 => .int
  | 1 => .array .int
  | 2 => .array .int
  | 3 => .array .int
  | 4 => .array .int
  | 5 => .array .int
  | 6 => .array .int
  | 7 => .array .int
  | 8 => .array .int
  | 9 => .int
  | 10 => .int
  | 11 => .int
  | 12 => .int
  | 13 => .array .int
  | _ => .array .int
abbrev wsX00 : List Cond := u_ws RX0 TX0 15
theorem nmX0 : ∀ a, a < 15 → ∀ b, b < 15 → a ≠ b → (TX0 a).2.1 ≠ (TX0 b).2.1 := by decide +kernel
theorem tyX0_ok : ∀ k, k < 15 → parseFieldDescriptor (TX0 k).2.2.1 = some (tyX0 k) := by decide +kernel
abbrev cX0_init : ByteArray := prog_2_method_1_code
def yX0_init : MethodName := ⟨RX0, "<init>", "()V"⟩
abbrev cX0_become : ByteArray := prog_2_method_2_code
def yX0_become : MethodName := ⟨RX0, "become", "(LNameRail$House;)V"⟩
abbrev cX0_hangUp : ByteArray := prog_2_method_3_code
def yX0_hangUp : MethodName := ⟨RX0, "hangUp", "(IIII)I"⟩
abbrev cX0_due : ByteArray := prog_2_method_4_code
def yX0_due : MethodName := ⟨RX0, "due", "(I)I"⟩
abbrev cX0_hangs : ByteArray := prog_2_method_5_code
def yX0_hangs : MethodName := ⟨RX0, "hangs", "(I)Z"⟩
abbrev cX0_hanging : ByteArray := prog_2_method_6_code
def yX0_hanging : MethodName := ⟨RX0, "hanging", "()I"⟩
abbrev cX0_foesOf : ByteArray := prog_2_method_7_code
def yX0_foesOf : MethodName := ⟨RX0, "foesOf", "(I)I"⟩
abbrev cX0_pairsIn : ByteArray := prog_2_method_8_code
def yX0_pairsIn : MethodName := ⟨RX0, "pairsIn", "(I)I"⟩
abbrev cX0_isPeaceful : ByteArray := prog_2_method_9_code
def yX0_isPeaceful : MethodName := ⟨RX0, "isPeaceful", "(I)Z"⟩
abbrev cX0_purses : ByteArray := prog_2_method_10_code
def yX0_purses : MethodName := ⟨RX0, "purses", "()I"⟩
abbrev cX0_debts : ByteArray := prog_2_method_11_code
def yX0_debts : MethodName := ⟨RX0, "debts", "()I"⟩
abbrev cX0_spotsHeld : ByteArray := prog_2_method_12_code
def yX0_spotsHeld : MethodName := ⟨RX0, "spotsHeld", "()I"⟩
abbrev cX0_lineUp : ByteArray := prog_2_method_13_code
def yX0_lineUp : MethodName := ⟨RX0, "lineUp", "(I)V"⟩
abbrev cX0_placeOf : ByteArray := prog_2_method_14_code
def yX0_placeOf : MethodName := ⟨RX0, "placeOf", "(I)I"⟩
abbrev cX0_draw : ByteArray := prog_2_method_15_code
def yX0_draw : MethodName := ⟨RX0, "draw", "(I)V"⟩
abbrev cX0_draws : ByteArray := prog_2_method_16_code
def yX0_draws : MethodName := ⟨RX0, "draws", "(I)Z"⟩
abbrev cX0_duesDrawn : ByteArray := prog_2_method_17_code
def yX0_duesDrawn : MethodName := ⟨RX0, "duesDrawn", "()I"⟩
abbrev cX0_pairsDrawn : ByteArray := prog_2_method_18_code
def yX0_pairsDrawn : MethodName := ⟨RX0, "pairsDrawn", "()I"⟩
abbrev cX0_passDay : ByteArray := prog_2_method_19_code
def yX0_passDay : MethodName := ⟨RX0, "passDay", "()V"⟩
abbrev cX0_pay : ByteArray := prog_2_method_20_code
def yX0_pay : MethodName := ⟨RX0, "pay", "(II)V"⟩
abbrev cX0_fade : ByteArray := prog_2_method_21_code
def yX0_fade : MethodName := ⟨RX0, "fade", "(I)V"⟩
abbrev cX0_pass : ByteArray := prog_2_method_22_code
def yX0_pass : MethodName := ⟨RX0, "pass", "(I)V"⟩
abbrev cX0_daysHung : ByteArray := prog_2_method_23_code
def yX0_daysHung : MethodName := ⟨RX0, "daysHung", "(I)I"⟩
abbrev cX0_pays : ByteArray := prog_2_method_24_code
def yX0_pays : MethodName := ⟨RX0, "pays", "(LNameRail$Sheet;I)Z"⟩
abbrev cX0_moth : ByteArray := prog_2_method_25_code
def yX0_moth : MethodName := ⟨RX0, "moth", "()V"⟩
def RX1 : String := "NameRail$Kinds"
def TX1 : u_T := fun k => match k with
  | _ => ("", "", "", false)
def tyX1 : Nat → FieldType := fun k => match k with
  | _ => .int
abbrev wsX10 : List Cond := u_ws RX1 TX1 0
theorem nmX1 : ∀ a, a < 0 → ∀ b, b < 0 → a ≠ b → (TX1 a).2.1 ≠ (TX1 b).2.1 := by decide +kernel
theorem tyX1_ok : ∀ k, k < 0 → parseFieldDescriptor (TX1 k).2.2.1 = some (tyX1 k) := by decide +kernel
abbrev cX1_above : ByteArray := prog_3_method_2_code
def yX1_above : MethodName := ⟨RX1, "above", "(I)I"⟩
abbrev cX1_isUnder : ByteArray := prog_3_method_3_code
def yX1_isUnder : MethodName := ⟨RX1, "isUnder", "(II)Z"⟩
abbrev cX1_due : ByteArray := prog_3_method_4_code
def yX1_due : MethodName := ⟨RX1, "due", "(IIII)I"⟩
abbrev cX1_fades : ByteArray := prog_3_method_5_code
def yX1_fades : MethodName := ⟨RX1, "fades", "(I)I"⟩
def RX2 : String := "NameRail$Reader"
def TX2 : u_T := fun k => match k with
  | 0 => ("NameRail$Reader", "tape", "LNameRail$Tape;", false)
  | 1 => ("NameRail$Reader", "sort", "I", false)
  | 2 => ("NameRail$Reader", "first", "I", false)
  | 3 => ("NameRail$Reader", "behind", "I", false)
  | _ => ("NameRail$Reader", "value", "I", false)
def tyX2 : Nat → FieldType := fun k => match k with
  | 0 => .object "NameRail$Tape"
  | 1 => .int
  | 2 => .int
  | 3 => .int
  | _ => .int
abbrev wsX20 : List Cond := u_ws RX2 TX2 5
theorem nmX2 : ∀ a, a < 5 → ∀ b, b < 5 → a ≠ b → (TX2 a).2.1 ≠ (TX2 b).2.1 := by decide +kernel
theorem tyX2_ok : ∀ k, k < 5 → parseFieldDescriptor (TX2 k).2.2.1 = some (tyX2 k) := by decide +kernel
abbrev cX2_init : ByteArray := prog_4_method_1_code
def yX2_init : MethodName := ⟨RX2, "<init>", "()V"⟩
abbrev cX2_read : ByteArray := prog_4_method_2_code
def yX2_read : MethodName := ⟨RX2, "read", "(LNameRail$Tape;LNameRail$House;)I"⟩
abbrev cX2_step : ByteArray := prog_4_method_3_code
def yX2_step : MethodName := ⟨RX2, "step", "()V"⟩
abbrev cX2_stepWord : ByteArray := prog_4_method_4_code
def yX2_stepWord : MethodName := ⟨RX2, "stepWord", "()V"⟩
abbrev cX2_stepNumber : ByteArray := prog_4_method_5_code
def yX2_stepNumber : MethodName := ⟨RX2, "stepNumber", "()V"⟩
abbrev cX2_isLetter : ByteArray := prog_4_method_6_code
def yX2_isLetter : MethodName := ⟨RX2, "isLetter", "(I)Z"⟩
abbrev cX2_isDigit : ByteArray := prog_4_method_7_code
def yX2_isDigit : MethodName := ⟨RX2, "isDigit", "(I)Z"⟩
abbrev cX2_isWord : ByteArray := prog_4_method_8_code
def yX2_isWord : MethodName := ⟨RX2, "isWord", "(Ljava/lang/String;)Z"⟩
abbrev cX2_isNumberTo : ByteArray := prog_4_method_9_code
def yX2_isNumberTo : MethodName := ⟨RX2, "isNumberTo", "(I)Z"⟩
abbrev cX2_kindTold : ByteArray := prog_4_method_10_code
def yX2_kindTold : MethodName := ⟨RX2, "kindTold", "()I"⟩
abbrev cX2_item : ByteArray := prog_4_method_11_code
def yX2_item : MethodName := ⟨RX2, "item", "(LNameRail$House;)Z"⟩
abbrev cX2_nameItem : ByteArray := prog_4_method_12_code
def yX2_nameItem : MethodName := ⟨RX2, "nameItem", "(LNameRail$House;I)Z"⟩
abbrev cX2_personItem : ByteArray := prog_4_method_13_code
def yX2_personItem : MethodName := ⟨RX2, "personItem", "(LNameRail$House;)Z"⟩
abbrev cX2_orderItem : ByteArray := prog_4_method_14_code
def yX2_orderItem : MethodName := ⟨RX2, "orderItem", "(LNameRail$House;)Z"⟩
def RX3 : String := "NameRail$Sheet"
def TX3 : u_T := fun k => match k with
  | 0 => ("NameRail$Sheet", "numbers", "[I", true)
  | 1 => ("NameRail$Sheet", "bits", "I", false)
  | _ => ("NameRail$Sheet", "length", "I", false)
def tyX3 : Nat → FieldType := fun k => match k with
  | 0 => .array .int
  | 1 => .int
  | _ => .int
abbrev wsX30 : List Cond := u_ws RX3 TX3 3
theorem nmX3 : ∀ a, a < 3 → ∀ b, b < 3 → a ≠ b → (TX3 a).2.1 ≠ (TX3 b).2.1 := by decide +kernel
theorem tyX3_ok : ∀ k, k < 3 → parseFieldDescriptor (TX3 k).2.2.1 = some (tyX3 k) := by decide +kernel
abbrev cX3_init : ByteArray := prog_5_method_1_code
def yX3_init : MethodName := ⟨RX3, "<init>", "()V"⟩
abbrev cX3_layOut : ByteArray := prog_5_method_2_code
def yX3_layOut : MethodName := ⟨RX3, "layOut", "(II)V"⟩
abbrev cX3_put : ByteArray := prog_5_method_3_code
def yX3_put : MethodName := ⟨RX3, "put", "(II)V"⟩
abbrev cX3_has : ByteArray := prog_5_method_4_code
def yX3_has : MethodName := ⟨RX3, "has", "(II)Z"⟩
def RX4 : String := "NameRail$Tape"
def TX4 : u_T := fun k => match k with
  | 0 => ("NameRail$Tape", "bytes", "[I", true)
  | _ => ("NameRail$Tape", "length", "I", false)
def tyX4 : Nat → FieldType := fun k => match k with
  | 0 => .array .int
  | _ => .int
abbrev wsX40 : List Cond := u_ws RX4 TX4 2
theorem nmX4 : ∀ a, a < 2 → ∀ b, b < 2 → a ≠ b → (TX4 a).2.1 ≠ (TX4 b).2.1 := by decide +kernel
theorem tyX4_ok : ∀ k, k < 2 → parseFieldDescriptor (TX4 k).2.2.1 = some (tyX4 k) := by decide +kernel
abbrev cX4_init : ByteArray := prog_6_method_1_code
def yX4_init : MethodName := ⟨RX4, "<init>", "()V"⟩
abbrev cX4_append : ByteArray := prog_6_method_2_code
def yX4_append : MethodName := ⟨RX4, "append", "(I)V"⟩
abbrev cX4_byteAt : ByteArray := prog_6_method_3_code
def yX4_byteAt : MethodName := ⟨RX4, "byteAt", "(I)I"⟩
def RX5 : String := "NameRail"
def TX5 : u_T := fun k => match k with
  | 0 => ("NameRail", "house", "LNameRail$House;", true)
  | 1 => ("NameRail", "kept", "LNameRail$House;", true)
  | 2 => ("NameRail", "trial", "LNameRail$House;", true)
  | 3 => ("NameRail", "tape", "LNameRail$Tape;", true)
  | 4 => ("NameRail", "reader", "LNameRail$Reader;", true)
  | 5 => ("NameRail", "sheets", "[LNameRail$Sheet;", true)
  | 6 => ("NameRail", "found", "[I", true)
  | _ => ("NameRail", "keeps", "Z", false)
def tyX5 : Nat → FieldType := fun k => match k with
  | 0 => .object "NameRail$House"
  | 1 => .object "NameRail$House"
  | 2 => .object "NameRail$House"
  | 3 => .object "NameRail$Tape"
  | 4 => .object "NameRail$Reader"
  | 5 => .array (.object "NameRail$Sheet")
  | 6 => .array .int
  | _ => .boolean
abbrev wsX50 : List Cond := u_ws RX5 TX5 8
theorem nmX5 : ∀ a, a < 8 → ∀ b, b < 8 → a ≠ b → (TX5 a).2.1 ≠ (TX5 b).2.1 := by decide +kernel
theorem tyX5_ok : ∀ k, k < 8 → parseFieldDescriptor (TX5 k).2.2.1 = some (tyX5 k) := by decide +kernel
abbrev cX5_init : ByteArray := prog_1_method_1_code
def yX5_init : MethodName := ⟨RX5, "<init>", "()V"⟩
abbrev cX5_name : ByteArray := prog_1_method_2_code
def yX5_name : MethodName := ⟨RX5, "name", "(II)I"⟩
abbrev cX5_of : ByteArray := prog_1_method_3_code
def yX5_of : MethodName := ⟨RX5, "of", "(II)I"⟩
abbrev cX5_change : ByteArray := prog_1_method_4_code
def yX5_change : MethodName := ⟨RX5, "change", "(III)I"⟩
abbrev cX5_person : ByteArray := prog_1_method_5_code
def yX5_person : MethodName := ⟨RX5, "person", "(III)I"⟩
abbrev cX5_personOf : ByteArray := prog_1_method_6_code
def yX5_personOf : MethodName := ⟨RX5, "personOf", "(II)I"⟩
abbrev cX5_order : ByteArray := prog_1_method_7_code
def yX5_order : MethodName := ⟨RX5, "order", "(I)I"⟩
abbrev cX5_at : ByteArray := prog_1_method_8_code
def yX5_at : MethodName := ⟨RX5, "at", "(II)I"⟩
abbrev cX5_go : ByteArray := prog_1_method_9_code
def yX5_go : MethodName := ⟨RX5, "go", "(I)I"⟩
abbrev cX5_now : ByteArray := prog_1_method_10_code
def yX5_now : MethodName := ⟨RX5, "now", "(I)I"⟩
abbrev cX5_mend : ByteArray := prog_1_method_11_code
def yX5_mend : MethodName := ⟨RX5, "mend", "(III)I"⟩
abbrev cX5_wears : ByteArray := prog_1_method_12_code
def yX5_wears : MethodName := ⟨RX5, "wears", "(I)I"⟩
abbrev cX5_ahead : ByteArray := prog_1_method_13_code
def yX5_ahead : MethodName := ⟨RX5, "ahead", "(II)I"⟩
abbrev cX5_owes : ByteArray := prog_1_method_14_code
def yX5_owes : MethodName := ⟨RX5, "owes", "(II)I"⟩
abbrev cX5_lasts : ByteArray := prog_1_method_15_code
def yX5_lasts : MethodName := ⟨RX5, "lasts", "(I)I"⟩
abbrev cX5_broke : ByteArray := prog_1_method_16_code
def yX5_broke : MethodName := ⟨RX5, "broke", "(I)I"⟩
abbrev cX5_often : ByteArray := prog_1_method_17_code
def yX5_often : MethodName := ⟨RX5, "often", "(III)I"⟩
abbrev cX5_kindFor : ByteArray := prog_1_method_18_code
def yX5_kindFor : MethodName := ⟨RX5, "kindFor", "(I)I"⟩
abbrev cX5_orderFor : ByteArray := prog_1_method_19_code
def yX5_orderFor : MethodName := ⟨RX5, "orderFor", "(II)I"⟩
abbrev cX5_orders : ByteArray := prog_1_method_20_code
def yX5_orders : MethodName := ⟨RX5, "orders", "(II)I"⟩
abbrev cX5_cheapest : ByteArray := prog_1_method_21_code
def yX5_cheapest : MethodName := ⟨RX5, "cheapest", "()I"⟩
abbrev cX5_calmest : ByteArray := prog_1_method_22_code
def yX5_calmest : MethodName := ⟨RX5, "calmest", "()I"⟩
abbrev cX5_best : ByteArray := prog_1_method_23_code
def yX5_best : MethodName := ⟨RX5, "best", "(II)I"⟩
abbrev cX5_wishFor : ByteArray := prog_1_method_24_code
def yX5_wishFor : MethodName := ⟨RX5, "wishFor", "(II)I"⟩
abbrev cX5_peace : ByteArray := prog_1_method_25_code
def yX5_peace : MethodName := ⟨RX5, "peace", "()I"⟩
abbrev cX5_peaceful : ByteArray := prog_1_method_26_code
def yX5_peaceful : MethodName := ⟨RX5, "peaceful", "(I)I"⟩
abbrev cX5_groups : ByteArray := prog_1_method_27_code
def yX5_groups : MethodName := ⟨RX5, "groups", "()I"⟩
abbrev cX5_mendFor : ByteArray := prog_1_method_28_code
def yX5_mendFor : MethodName := ⟨RX5, "mendFor", "(I)I"⟩
abbrev cX5_without : ByteArray := prog_1_method_29_code
def yX5_without : MethodName := ⟨RX5, "without", "(I)I"⟩
abbrev cX5_fits : ByteArray := prog_1_method_30_code
def yX5_fits : MethodName := ⟨RX5, "fits", "(II)I"⟩
abbrev cX5_wish : ByteArray := prog_1_method_31_code
def yX5_wish : MethodName := ⟨RX5, "wish", "(II)I"⟩
abbrev cX5_moths : ByteArray := prog_1_method_32_code
def yX5_moths : MethodName := ⟨RX5, "moths", "(I)I"⟩
abbrev cX5_odds : ByteArray := prog_1_method_33_code
def yX5_odds : MethodName := ⟨RX5, "odds", "(II)J"⟩
abbrev cX5_seed : ByteArray := prog_1_method_34_code
def yX5_seed : MethodName := ⟨RX5, "seed", "(I)I"⟩
abbrev cX5_feed : ByteArray := prog_1_method_35_code
def yX5_feed : MethodName := ⟨RX5, "feed", "(II)I"⟩
abbrev cX5_wipe : ByteArray := prog_1_method_36_code
def yX5_wipe : MethodName := ⟨RX5, "wipe", "()I"⟩
abbrev cX5_text : ByteArray := prog_1_method_37_code
def yX5_text : MethodName := ⟨RX5, "text", "()I"⟩
abbrev cX5_hold : ByteArray := prog_1_method_38_code
def yX5_hold : MethodName := ⟨RX5, "hold", "(II)I"⟩
abbrev cX5_as : ByteArray := prog_1_method_39_code
def yX5_as : MethodName := ⟨RX5, "as", "(II)I"⟩
abbrev cX5_sheet : ByteArray := prog_1_method_40_code
def yX5_sheet : MethodName := ⟨RX5, "sheet", "(III)I"⟩
abbrev cX5_write : ByteArray := prog_1_method_41_code
def yX5_write : MethodName := ⟨RX5, "write", "(III)I"⟩
abbrev cX5_copy : ByteArray := prog_1_method_42_code
def yX5_copy : MethodName := ⟨RX5, "copy", "(IIIII)I"⟩
abbrev cX5_load : ByteArray := prog_1_method_43_code
def yX5_load : MethodName := ⟨RX5, "load", "(I)I"⟩
abbrev cX5_judge : ByteArray := prog_1_method_44_code
def yX5_judge : MethodName := ⟨RX5, "judge", "(I)I"⟩
abbrev cX5_image : ByteArray := prog_1_method_45_code
def yX5_image : MethodName := ⟨RX5, "image", "()I"⟩
abbrev cX5_undo : ByteArray := prog_1_method_46_code
def yX5_undo : MethodName := ⟨RX5, "undo", "()I"⟩
abbrev cX5_tear : ByteArray := prog_1_method_47_code
def yX5_tear : MethodName := ⟨RX5, "tear", "()I"⟩
abbrev cX5_count : ByteArray := prog_1_method_48_code
def yX5_count : MethodName := ⟨RX5, "count", "(I)I"⟩
abbrev cX5_status : ByteArray := prog_1_method_49_code
def yX5_status : MethodName := ⟨RX5, "status", "(I)I"⟩
abbrev cX5_finding : ByteArray := prog_1_method_50_code
def yX5_finding : MethodName := ⟨RX5, "finding", "(I)I"⟩
abbrev cX5_within : ByteArray := prog_1_method_51_code
def yX5_within : MethodName := ⟨RX5, "within", "(III)Z"⟩
abbrev cX5_isIn : ByteArray := prog_1_method_52_code
def yX5_isIn : MethodName := ⟨RX5, "isIn", "(II)Z"⟩
abbrev cX5_lowest : ByteArray := prog_1_method_53_code
def yX5_lowest : MethodName := ⟨RX5, "lowest", "(I)I"⟩
abbrev cX5_isName : ByteArray := prog_1_method_54_code
def yX5_isName : MethodName := ⟨RX5, "isName", "(I)Z"⟩
abbrev cX5_isNameOrNone : ByteArray := prog_1_method_55_code
def yX5_isNameOrNone : MethodName := ⟨RX5, "isNameOrNone", "(I)Z"⟩
abbrev cX5_isPerson : ByteArray := prog_1_method_56_code
def yX5_isPerson : MethodName := ⟨RX5, "isPerson", "(I)Z"⟩
abbrev cX5_isOrder : ByteArray := prog_1_method_57_code
def yX5_isOrder : MethodName := ⟨RX5, "isOrder", "(I)Z"⟩
abbrev cX5_isSheet : ByteArray := prog_1_method_58_code
def yX5_isSheet : MethodName := ⟨RX5, "isSheet", "(I)Z"⟩
abbrev cX5_changed : ByteArray := prog_1_method_59_code
def yX5_changed : MethodName := ⟨RX5, "changed", "([IIIZ)I"⟩
abbrev cX5_richestWith : ByteArray := prog_1_method_60_code
def yX5_richestWith : MethodName := ⟨RX5, "richestWith", "(II)I"⟩
abbrev cX5_faultOfFit : ByteArray := prog_1_method_61_code
def yX5_faultOfFit : MethodName := ⟨RX5, "faultOfFit", "(II)I"⟩
abbrev cX5_fitting : ByteArray := prog_1_method_62_code
def yX5_fitting : MethodName := ⟨RX5, "fitting", "(LNameRail$Sheet;I)I"⟩
def RX6 : String := "NameRailModel"
def TX6 : u_T := fun k => match k with
  | 0 => ("NameRailModel", "now", "[I", true)
  | 1 => ("NameRailModel", "kept", "[I", true)
  | 2 => ("NameRailModel", "aside", "[I", true)
  | 3 => ("NameRailModel", "isKept", "Z", false)
  | 4 => ("NameRailModel", "found", "[I", true)
  | 5 => ("NameRailModel", "drawn", "[I", true)
  | 6 => ("NameRailModel", "groupsOf", "[I", true)
  | 7 => ("NameRailModel", "tape", "[I", true)
  | 8 => ("NameRailModel", "taped", "I", false)
  | 9 => ("NameRailModel", "begins", "I", false)
  | 10 => ("NameRailModel", "ends", "I", false)
  | 11 => ("NameRailModel", "sort", "I", false)
  | 12 => ("NameRailModel", "value", "I", false)
  | 13 => ("NameRailModel", "isWrong", "Z", false)
  | 14 => ("NameRailModel", "kindNames", "[Ljava/lang/String;", true)
  | 15 => ("NameRailModel", "items", "[I", true)
  | 16 => ("NameRailModel", "itemMany", "I", false)
  | 17 => ("NameRailModel", "nameThen", "I", false)
  | 18 => ("NameRailModel", "widths", "[I", true)
  | 19 => ("NameRailModel", "sizes", "[I", true)
  | 20 => ("NameRailModel", "numbers", "[I", true)
  | _ => ("NameRailModel", "moved", "[I", true)
def tyX6 : Nat → FieldType := fun k => match k with
  | 0 => .array .int
  | 1 => .array .int
  | 2 => .array .int
  | 3 => .boolean
  | 4 => .array .int
  | 5 => .array .int
  | 6 => .array .int
  | 7 => .array .int
  | 8 => .int
  | 9 => .int
  | 10 => .int
  | 11 => .int
  | 12 => .int
  | 13 => .boolean
  | 14 => .array (.object "java/lang/String")
  | 15 => .array .int
  | 16 => .int
  | 17 => .int
  | 18 => .array .int
  | 19 => .array .int
  | 20 => .array .int
  | _ => .array .int
abbrev wsX60 : List Cond := u_ws RX6 TX6 22
theorem nmX6 : ∀ a, a < 22 → ∀ b, b < 22 → a ≠ b → (TX6 a).2.1 ≠ (TX6 b).2.1 := by decide +kernel
theorem tyX6_ok : ∀ k, k < 22 → parseFieldDescriptor (TX6 k).2.2.1 = some (tyX6 k) := by decide +kernel
abbrev cX6_init : ByteArray := prog_8_method_1_code
def yX6_init : MethodName := ⟨RX6, "<init>", "()V"⟩
abbrev cX6_finding : ByteArray := prog_8_method_2_code
def yX6_finding : MethodName := ⟨RX6, "finding", "(I)I"⟩
abbrev cX6_within : ByteArray := prog_8_method_3_code
def yX6_within : MethodName := ⟨RX6, "within", "(III)Z"⟩
abbrev cX6_become : ByteArray := prog_8_method_4_code
def yX6_become : MethodName := ⟨RX6, "become", "(II)I"⟩
abbrev cX6_copyRow : ByteArray := prog_8_method_5_code
def yX6_copyRow : MethodName := ⟨RX6, "copyRow", "([I[I)V"⟩
abbrev cX6_putBack : ByteArray := prog_8_method_6_code
def yX6_putBack : MethodName := ⟨RX6, "putBack", "(I)I"⟩
abbrev cX6_orNone : ByteArray := prog_8_method_7_code
def yX6_orNone : MethodName := ⟨RX6, "orNone", "(I)I"⟩
abbrev cX6_has : ByteArray := prog_8_method_8_code
def yX6_has : MethodName := ⟨RX6, "has", "(II)Z"⟩
abbrev cX6_bits : ByteArray := prog_8_method_9_code
def yX6_bits : MethodName := ⟨RX6, "bits", "(I)I"⟩
abbrev cX6_isName : ByteArray := prog_8_method_10_code
def yX6_isName : MethodName := ⟨RX6, "isName", "(I)Z"⟩
abbrev cX6_isPerson : ByteArray := prog_8_method_11_code
def yX6_isPerson : MethodName := ⟨RX6, "isPerson", "(I)Z"⟩
abbrev cX6_isKind : ByteArray := prog_8_method_12_code
def yX6_isKind : MethodName := ⟨RX6, "isKind", "(I)Z"⟩
abbrev cX6_place : ByteArray := prog_8_method_13_code
def yX6_place : MethodName := ⟨RX6, "place", "(II)I"⟩
abbrev cX6_nameIs : ByteArray := prog_8_method_14_code
def yX6_nameIs : MethodName := ⟨RX6, "nameIs", "(II)I"⟩
abbrev cX6_comes : ByteArray := prog_8_method_15_code
def yX6_comes : MethodName := ⟨RX6, "comes", "(IIII)I"⟩
abbrev cX6_name : ByteArray := prog_8_method_16_code
def yX6_name : MethodName := ⟨RX6, "name", "(II)I"⟩
abbrev cX6_dueOf : ByteArray := prog_8_method_17_code
def yX6_dueOf : MethodName := ⟨RX6, "dueOf", "(I)I"⟩
abbrev cX6_fadesBy : ByteArray := prog_8_method_18_code
def yX6_fadesBy : MethodName := ⟨RX6, "fadesBy", "(I)I"⟩
abbrev cX6_hangs : ByteArray := prog_8_method_19_code
def yX6_hangs : MethodName := ⟨RX6, "hangs", "(I)Z"⟩
abbrev cX6_doQuarrel : ByteArray := prog_8_method_20_code
def yX6_doQuarrel : MethodName := ⟨RX6, "doQuarrel", "(II)Z"⟩
abbrev cX6_foesOf : ByteArray := prog_8_method_21_code
def yX6_foesOf : MethodName := ⟨RX6, "foesOf", "(I)I"⟩
abbrev cX6_of : ByteArray := prog_8_method_22_code
def yX6_of : MethodName := ⟨RX6, "of", "(II)I"⟩
abbrev cX6_mayBe : ByteArray := prog_8_method_23_code
def yX6_mayBe : MethodName := ⟨RX6, "mayBe", "(III)Z"⟩
abbrev cX6_change : ByteArray := prog_8_method_24_code
def yX6_change : MethodName := ⟨RX6, "change", "(III)I"⟩
abbrev cX6_isPurse : ByteArray := prog_8_method_25_code
def yX6_isPurse : MethodName := ⟨RX6, "isPurse", "(I)Z"⟩
abbrev cX6_person : ByteArray := prog_8_method_26_code
def yX6_person : MethodName := ⟨RX6, "person", "(III)I"⟩
abbrev cX6_isOrder : ByteArray := prog_8_method_27_code
def yX6_isOrder : MethodName := ⟨RX6, "isOrder", "(I)Z"⟩
abbrev cX6_standsAt : ByteArray := prog_8_method_28_code
def yX6_standsAt : MethodName := ⟨RX6, "standsAt", "(II)I"⟩
abbrev cX6_placeOf : ByteArray := prog_8_method_29_code
def yX6_placeOf : MethodName := ⟨RX6, "placeOf", "(I)I"⟩
abbrev cX6_personOf : ByteArray := prog_8_method_30_code
def yX6_personOf : MethodName := ⟨RX6, "personOf", "(II)I"⟩
abbrev cX6_order : ByteArray := prog_8_method_31_code
def yX6_order : MethodName := ⟨RX6, "order", "(I)I"⟩
abbrev cX6_at : ByteArray := prog_8_method_32_code
def yX6_at : MethodName := ⟨RX6, "at", "(II)I"⟩
abbrev cX6_leastLeft : ByteArray := prog_8_method_33_code
def yX6_leastLeft : MethodName := ⟨RX6, "leastLeft", "(I)I"⟩
abbrev cX6_drawBy : ByteArray := prog_8_method_34_code
def yX6_drawBy : MethodName := ⟨RX6, "drawBy", "(I)I"⟩
abbrev cX6_quarrelsIn : ByteArray := prog_8_method_35_code
def yX6_quarrelsIn : MethodName := ⟨RX6, "quarrelsIn", "(I)I"⟩
abbrev cX6_pays : ByteArray := prog_8_method_36_code
def yX6_pays : MethodName := ⟨RX6, "pays", "(I)V"⟩
abbrev cX6_day : ByteArray := prog_8_method_37_code
def yX6_day : MethodName := ⟨RX6, "day", "()V"⟩
abbrev cX6_days : ByteArray := prog_8_method_38_code
def yX6_days : MethodName := ⟨RX6, "days", "(I)V"⟩
abbrev cX6_purses : ByteArray := prog_8_method_39_code
def yX6_purses : MethodName := ⟨RX6, "purses", "()I"⟩
abbrev cX6_go : ByteArray := prog_8_method_40_code
def yX6_go : MethodName := ⟨RX6, "go", "(I)I"⟩
abbrev cX6_hungNow : ByteArray := prog_8_method_41_code
def yX6_hungNow : MethodName := ⟨RX6, "hungNow", "()I"⟩
abbrev cX6_debts : ByteArray := prog_8_method_42_code
def yX6_debts : MethodName := ⟨RX6, "debts", "()I"⟩
abbrev cX6_now : ByteArray := prog_8_method_43_code
def yX6_now : MethodName := ⟨RX6, "now", "(I)I"⟩
abbrev cX6_mend : ByteArray := prog_8_method_44_code
def yX6_mend : MethodName := ⟨RX6, "mend", "(III)I"⟩
abbrev cX6_wears : ByteArray := prog_8_method_45_code
def yX6_wears : MethodName := ⟨RX6, "wears", "(I)I"⟩
abbrev cX6_behind : ByteArray := prog_8_method_46_code
def yX6_behind : MethodName := ⟨RX6, "behind", "(II)I"⟩
abbrev cX6_ahead : ByteArray := prog_8_method_47_code
def yX6_ahead : MethodName := ⟨RX6, "ahead", "(II)I"⟩
abbrev cX6_owes : ByteArray := prog_8_method_48_code
def yX6_owes : MethodName := ⟨RX6, "owes", "(II)I"⟩
abbrev cX6_hungFor : ByteArray := prog_8_method_49_code
def yX6_hungFor : MethodName := ⟨RX6, "hungFor", "(I)I"⟩
abbrev cX6_lasts : ByteArray := prog_8_method_50_code
def yX6_lasts : MethodName := ⟨RX6, "lasts", "(I)I"⟩
abbrev cX6_broke : ByteArray := prog_8_method_51_code
def yX6_broke : MethodName := ⟨RX6, "broke", "(I)I"⟩
abbrev cX6_often : ByteArray := prog_8_method_52_code
def yX6_often : MethodName := ⟨RX6, "often", "(III)I"⟩
abbrev cX6_kindFor : ByteArray := prog_8_method_53_code
def yX6_kindFor : MethodName := ⟨RX6, "kindFor", "(I)I"⟩
abbrev cX6_doesDraw : ByteArray := prog_8_method_54_code
def yX6_doesDraw : MethodName := ⟨RX6, "doesDraw", "(III)Z"⟩
abbrev cX6_orderFor : ByteArray := prog_8_method_55_code
def yX6_orderFor : MethodName := ⟨RX6, "orderFor", "(II)I"⟩
abbrev cX6_orders : ByteArray := prog_8_method_56_code
def yX6_orders : MethodName := ⟨RX6, "orders", "(II)I"⟩
abbrev cX6_duesIn : ByteArray := prog_8_method_57_code
def yX6_duesIn : MethodName := ⟨RX6, "duesIn", "(I)I"⟩
abbrev cX6_leastOrder : ByteArray := prog_8_method_58_code
def yX6_leastOrder : MethodName := ⟨RX6, "leastOrder", "(Z)I"⟩
abbrev cX6_cheapest : ByteArray := prog_8_method_59_code
def yX6_cheapest : MethodName := ⟨RX6, "cheapest", "()I"⟩
abbrev cX6_calmest : ByteArray := prog_8_method_60_code
def yX6_calmest : MethodName := ⟨RX6, "calmest", "()I"⟩
abbrev cX6_greatest : ByteArray := prog_8_method_61_code
def yX6_greatest : MethodName := ⟨RX6, "greatest", "(IIIII)I"⟩
abbrev cX6_best : ByteArray := prog_8_method_62_code
def yX6_best : MethodName := ⟨RX6, "best", "(II)I"⟩
abbrev cX6_wishFor : ByteArray := prog_8_method_63_code
def yX6_wishFor : MethodName := ⟨RX6, "wishFor", "(II)I"⟩
abbrev cX6_isPeace : ByteArray := prog_8_method_64_code
def yX6_isPeace : MethodName := ⟨RX6, "isPeace", "(I)Z"⟩
abbrev cX6_peace : ByteArray := prog_8_method_65_code
def yX6_peace : MethodName := ⟨RX6, "peace", "()I"⟩
abbrev cX6_peaceful : ByteArray := prog_8_method_66_code
def yX6_peaceful : MethodName := ⟨RX6, "peaceful", "(I)I"⟩
abbrev cX6_groups : ByteArray := prog_8_method_67_code
def yX6_groups : MethodName := ⟨RX6, "groups", "()I"⟩
abbrev cX6_pursesBy : ByteArray := prog_8_method_68_code
def yX6_pursesBy : MethodName := ⟨RX6, "pursesBy", "(II)I"⟩
abbrev cX6_putBackPurses : ByteArray := prog_8_method_69_code
def yX6_putBackPurses : MethodName := ⟨RX6, "putBackPurses", "()I"⟩
abbrev cX6_mendFor : ByteArray := prog_8_method_70_code
def yX6_mendFor : MethodName := ⟨RX6, "mendFor", "(I)I"⟩
abbrev cX6_without : ByteArray := prog_8_method_71_code
def yX6_without : MethodName := ⟨RX6, "without", "(I)I"⟩
abbrev cX6_lacks : ByteArray := prog_8_method_72_code
def yX6_lacks : MethodName := ⟨RX6, "lacks", "(I)I"⟩
abbrev cX6_wentSo : ByteArray := prog_8_method_73_code
def yX6_wentSo : MethodName := ⟨RX6, "wentSo", "(II)Z"⟩
abbrev cX6_fitting : ByteArray := prog_8_method_74_code
def yX6_fitting : MethodName := ⟨RX6, "fitting", "(II)I"⟩
abbrev cX6_fits : ByteArray := prog_8_method_75_code
def yX6_fits : MethodName := ⟨RX6, "fits", "(II)I"⟩
abbrev cX6_wish : ByteArray := prog_8_method_76_code
def yX6_wish : MethodName := ⟨RX6, "wish", "(II)I"⟩
abbrev cX6_drawnNumber : ByteArray := prog_8_method_77_code
def yX6_drawnNumber : MethodName := ⟨RX6, "drawnNumber", "()I"⟩
abbrev cX6_moths : ByteArray := prog_8_method_78_code
def yX6_moths : MethodName := ⟨RX6, "moths", "(I)I"⟩
abbrev cX6_odds : ByteArray := prog_8_method_79_code
def yX6_odds : MethodName := ⟨RX6, "odds", "(II)J"⟩
abbrev cX6_seed : ByteArray := prog_8_method_80_code
def yX6_seed : MethodName := ⟨RX6, "seed", "(I)I"⟩
abbrev cX6_feed : ByteArray := prog_8_method_81_code
def yX6_feed : MethodName := ⟨RX6, "feed", "(II)I"⟩
abbrev cX6_wipe : ByteArray := prog_8_method_82_code
def yX6_wipe : MethodName := ⟨RX6, "wipe", "()I"⟩
abbrev cX6_byteAt : ByteArray := prog_8_method_83_code
def yX6_byteAt : MethodName := ⟨RX6, "byteAt", "(I)I"⟩
abbrev cX6_next : ByteArray := prog_8_method_84_code
def yX6_next : MethodName := ⟨RX6, "next", "()V"⟩
abbrev cX6_isWord : ByteArray := prog_8_method_85_code
def yX6_isWord : MethodName := ⟨RX6, "isWord", "(Ljava/lang/String;)Z"⟩
abbrev cX6_must : ByteArray := prog_8_method_86_code
def yX6_must : MethodName := ⟨RX6, "must", "(Z)V"⟩
abbrev cX6_number : ByteArray := prog_8_method_87_code
def yX6_number : MethodName := ⟨RX6, "number", "(II)I"⟩
abbrev cX6_item : ByteArray := prog_8_method_88_code
def yX6_item : MethodName := ⟨RX6, "item", "(IIII)V"⟩
abbrev cX6_kindTold : ByteArray := prog_8_method_89_code
def yX6_kindTold : MethodName := ⟨RX6, "kindTold", "()I"⟩
abbrev cX6_afterWord : ByteArray := prog_8_method_90_code
def yX6_afterWord : MethodName := ⟨RX6, "afterWord", "(Ljava/lang/String;II)I"⟩
abbrev cX6_readItem : ByteArray := prog_8_method_91_code
def yX6_readItem : MethodName := ⟨RX6, "readItem", "()V"⟩
abbrev cX6_isToldSo : ByteArray := prog_8_method_92_code
def yX6_isToldSo : MethodName := ⟨RX6, "isToldSo", "(I)I"⟩
abbrev cX6_text : ByteArray := prog_8_method_93_code
def yX6_text : MethodName := ⟨RX6, "text", "()I"⟩
abbrev cX6_isSpot : ByteArray := prog_8_method_94_code
def yX6_isSpot : MethodName := ⟨RX6, "isSpot", "(I)Z"⟩
abbrev cX6_hold : ByteArray := prog_8_method_95_code
def yX6_hold : MethodName := ⟨RX6, "hold", "(II)I"⟩
abbrev cX6_as : ByteArray := prog_8_method_96_code
def yX6_as : MethodName := ⟨RX6, "as", "(II)I"⟩
abbrev cX6_isSheet : ByteArray := prog_8_method_97_code
def yX6_isSheet : MethodName := ⟨RX6, "isSheet", "(I)Z"⟩
abbrev cX6_cutTo : ByteArray := prog_8_method_98_code
def yX6_cutTo : MethodName := ⟨RX6, "cutTo", "(II)I"⟩
abbrev cX6_sheet : ByteArray := prog_8_method_99_code
def yX6_sheet : MethodName := ⟨RX6, "sheet", "(III)I"⟩
abbrev cX6_write : ByteArray := prog_8_method_100_code
def yX6_write : MethodName := ⟨RX6, "write", "(III)I"⟩
abbrev cX6_copy : ByteArray := prog_8_method_101_code
def yX6_copy : MethodName := ⟨RX6, "copy", "(IIIII)I"⟩
abbrev cX6_above : ByteArray := prog_8_method_102_code
def yX6_above : MethodName := ⟨RX6, "above", "(I)I"⟩
abbrev cX6_isUnder : ByteArray := prog_8_method_103_code
def yX6_isUnder : MethodName := ⟨RX6, "isUnder", "(II)Z"⟩
abbrev cX6_load : ByteArray := prog_8_method_104_code
def yX6_load : MethodName := ⟨RX6, "load", "(I)I"⟩
abbrev cX6_judge : ByteArray := prog_8_method_105_code
def yX6_judge : MethodName := ⟨RX6, "judge", "(I)I"⟩
abbrev cX6_image : ByteArray := prog_8_method_106_code
def yX6_image : MethodName := ⟨RX6, "image", "()I"⟩
abbrev cX6_undo : ByteArray := prog_8_method_107_code
def yX6_undo : MethodName := ⟨RX6, "undo", "()I"⟩
abbrev cX6_tear : ByteArray := prog_8_method_108_code
def yX6_tear : MethodName := ⟨RX6, "tear", "()I"⟩
abbrev cX6_count : ByteArray := prog_8_method_109_code
def yX6_count : MethodName := ⟨RX6, "count", "(I)I"⟩
abbrev cX6_status : ByteArray := prog_8_method_110_code
def yX6_status : MethodName := ⟨RX6, "status", "(I)I"⟩
def RJ6 : String := "java/lang/Integer"
def TJ6 : u_T := fun k => match k with
  | _ => ("", "", "", false)
def tyJ6 : Nat → FieldType := fun k => match k with
  | _ => .int
abbrev wsJ60 : List Cond := u_ws RJ6 TJ6 0
abbrev cJ6_bitCount_0f7a4 : ByteArray := prog_9_method_49_code
def yJ6_bitCount_0f7a4 : MethodName := ⟨RJ6, "bitCount", "(I)I"⟩
def RJ9 : String := "java/lang/Math"
def TJ9 : u_T := fun k => match k with
  | _ => ("", "", "", false)
def tyJ9 : Nat → FieldType := fun k => match k with
  | _ => .int
abbrev wsJ90 : List Cond := u_ws RJ9 TJ9 0
abbrev cJ9_max_7cf53 : ByteArray := prog_10_method_65_code
def yJ9_max_7cf53 : MethodName := ⟨RJ9, "max", "(II)I"⟩
abbrev cJ9_min_7cf53 : ByteArray := prog_10_method_69_code
def yJ9_min_7cf53 : MethodName := ⟨RJ9, "min", "(II)I"⟩
def RJ0 : String := "java/lang/String"
def TJ0 : u_T := fun k => match k with
  | _ => ("", "", "", false)
def tyJ0 : Nat → FieldType := fun k => match k with
  | _ => .int
abbrev wsJ00 : List Cond := u_ws RJ0 TJ0 0
abbrev cJ0_length_8abf5 : ByteArray := prog_11_method_54_code
def yJ0_length_8abf5 : MethodName := ⟨RJ0, "length", "()I"⟩
abbrev cJ0_charAt_5068e : ByteArray := prog_11_method_56_code
def yJ0_charAt_5068e : MethodName := ⟨RJ0, "charAt", "(I)C"⟩
abbrev cJ0_coder_7d493 : ByteArray := prog_11_method_152_code
def yJ0_coder_7d493 : MethodName := ⟨RJ0, "coder", "()B"⟩
abbrev cJ0_isLatin1_aae02 : ByteArray := prog_11_method_154_code
def yJ0_isLatin1_aae02 : MethodName := ⟨RJ0, "isLatin1", "()Z"⟩
abbrev cJ0_checkIndex_df160 : ByteArray := prog_11_method_155_code
def yJ0_checkIndex_df160 : MethodName := ⟨RJ0, "checkIndex", "(II)V"⟩
def RJ1 : String := "java/lang/StringLatin1"
def TJ1 : u_T := fun k => match k with
  | _ => ("", "", "", false)
def tyJ1 : Nat → FieldType := fun k => match k with
  | _ => .int
abbrev wsJ10 : List Cond := u_ws RJ1 TJ1 0
abbrev cJ1_charAt_3b067 : ByteArray := prog_12_method_2_code
def yJ1_charAt_3b067 : MethodName := ⟨RJ1, "charAt", "([BI)C"⟩
def RJ2 : String := "java/lang/StringUTF16"
def TJ2 : u_T := fun k => match k with
  | _ => ("", "", "", false)
def tyJ2 : Nat → FieldType := fun k => match k with
  | _ => .int
abbrev wsJ20 : List Cond := u_ws RJ2 TJ2 0
abbrev cJ2_getChar_3b067 : ByteArray := prog_13_method_5_code
def yJ2_getChar_3b067 : MethodName := ⟨RJ2, "getChar", "([BI)C"⟩
abbrev cJ2_length_9d52b : ByteArray := prog_13_method_6_code
def yJ2_length_9d52b : MethodName := ⟨RJ2, "length", "([B)I"⟩
abbrev cJ2_charAt_3b067 : ByteArray := prog_13_method_83_code
def yJ2_charAt_3b067 : MethodName := ⟨RJ2, "charAt", "([BI)C"⟩
abbrev cJ2_checkIndex_2214a : ByteArray := prog_13_method_91_code
def yJ2_checkIndex_2214a : MethodName := ⟨RJ2, "checkIndex", "(I[B)V"⟩
def RJ10 : String := "java/lang/System"
def TJ10 : u_T := fun k => match k with
  | _ => ("", "", "", false)
def tyJ10 : Nat → FieldType := fun k => match k with
  | _ => .int
abbrev wsJ100 : List Cond := u_ws RJ10 TJ10 0
def RJ3 : String := "jdk/internal/util/Preconditions"
def TJ3 : u_T := fun k => match k with
  | _ => ("", "", "", false)
def tyJ3 : Nat → FieldType := fun k => match k with
  | _ => .int
abbrev wsJ30 : List Cond := u_ws RJ3 TJ3 0
abbrev cJ3_checkIndex_8e157 : ByteArray := prog_15_method_11_code
def yJ3_checkIndex_8e157 : MethodName := ⟨RJ3, "checkIndex", "(IILjava/util/function/BiFunction;)I"⟩
end
section
/-! THE PURE MACHINE. A world of numbered cells of a fixed shape: what a cell is (an int array, an object with its fields, a row of references) never changes behind the constructors; what it holds is M : cell -> place -> Int32. A contract says: with memory M the method answers v, and leaves M'. -/
abbrev zM : Type := Nat → Nat → Int32
/-- the shape of a cell: an int array of n; an object of a class with its fields (none: a number; some r: the cell r for ever; some 900: null, or the tape); a row of references -/
abbrev zSh : Type := Nat ⊕ ((Nat × List (Option Nat)) ⊕ (Nat × List Nat))
def zHouse (t : Nat) : zSh := .inr (.inl (0, [none, some (t+1), some (t+2), some (t+3), some (t+4), some (t+5), some (t+6), some (t+7), some (t+8), none, none, none, none, some (t+9), some (t+10)]))
def zSheet (t : Nat) : zSh := .inr (.inl (2, [some (t+1), none, none]))
/-- the shapes: the class's cells 0 to 46, the reference's 47 to 60 -/
def sh : Nat → zSh
  | 0 => .inr (.inl (4, [some 1, some 12, some 23, some 34, some 36, some 37, some 38, none]))
  | 1 => zHouse 1
  | 2 => .inl 8
  | 3 => .inl 8
  | 4 => .inl 8
  | 5 => .inl 8
  | 6 => .inl 8
  | 7 => .inl 6
  | 8 => .inl 6
  | 9 => .inl 10
  | 10 => .inl 6
  | 11 => .inl 6
  | 12 => zHouse 12
  | 13 => .inl 8
  | 14 => .inl 8
  | 15 => .inl 8
  | 16 => .inl 8
  | 17 => .inl 8
  | 18 => .inl 6
  | 19 => .inl 6
  | 20 => .inl 10
  | 21 => .inl 6
  | 22 => .inl 6
  | 23 => zHouse 23
  | 24 => .inl 8
  | 25 => .inl 8
  | 26 => .inl 8
  | 27 => .inl 8
  | 28 => .inl 8
  | 29 => .inl 6
  | 30 => .inl 6
  | 31 => .inl 10
  | 32 => .inl 6
  | 33 => .inl 6
  | 34 => .inr (.inl (3, [some 35, none]))
  | 35 => .inl 120
  | 36 => .inr (.inl (1, [some 900, none, none, none, none]))
  | 37 => .inr (.inr (1, [39, 41, 43, 45]))
  | 38 => .inl 7
  | 39 => zSheet 39
  | 40 => .inl 40
  | 41 => zSheet 41
  | 42 => .inl 40
  | 43 => zSheet 43
  | 44 => .inl 40
  | 45 => zSheet 45
  | 46 => .inl 40
  | 47 => .inr (.inl (5, [some 48, some 49, some 50, none, some 51, some 52, some 53, some 54, none, none, none, none, none, none, some 55, some 56, none, none, some 57, some 58, some 59, some 60]))
  | 48 => .inl 67
  | 49 => .inl 67
  | 50 => .inl 67
  | 51 => .inl 8
  | 52 => .inl 6
  | 53 => .inl 256
  | 54 => .inl 120
  | 55 => .inr (.inr (2, [1000, 1001, 1002, 1003, 1004, 1005, 1006]))
  | 56 => .inl 480
  | 57 => .inl 4
  | 58 => .inl 4
  | 59 => .inl 160
  | 60 => .inl 40
  | _ => .inl 0
def isH (t : Nat) : Prop := t = 1 ∨ t = 12 ∨ t = 23
def isS (t : Nat) : Prop := t = 39 ∨ t = 41 ∨ t = 43 ∨ t = 45
theorem shH {t : Nat} (h : isH t) : sh t = zHouse t := by rcases h with rfl | rfl | rfl <;> rfl
theorem shS {t : Nat} (h : isS t) : sh t = zSheet t := by rcases h with rfl | rfl | rfl | rfl <;> rfl
theorem isH_1 : isH 1 := Or.inl rfl
theorem isH_12 : isH 12 := Or.inr (Or.inl rfl)
theorem isH_23 : isH 23 := Or.inr (Or.inr rfl)
abbrev NC : Nat := 61
theorem isH_lt {t : Nat} (h : isH t) : t < NC := by rcases h with rfl | rfl | rfl <;> decide
theorem isS_lt {t : Nat} (h : isS t) : t < NC := by rcases h with rfl | rfl | rfl | rfl <;> decide
def zU (M : zM) (k j : Nat) (v : Int32) : zM := fun a => if a = k then upd (M k) j v else M a
/-- rows copied: n numbers of cell a from sp on into cell b from dp on -/
def zCp (M : zM) (a b sp dp n : Nat) : zM := fun q => if q = b then va_cpy (M a) (M b) sp dp n else M q
def zrd (M : zM) (k : Nat) (i : Int32) : Option Int32 := match sh k with
  | .inl n => if i < 0 ∨ n ≤ i.toNatClampNeg then none else some (M k i.toNatClampNeg)
  | _ => none
def zwr (M : zM) (k : Nat) (i v : Int32) : Option zM := match sh k with
  | .inl n => if i < 0 ∨ n ≤ i.toNatClampNeg then none else some (zU M k i.toNatClampNeg v)
  | _ => none
def zrr (k : Nat) (i : Int32) : Option Nat := match sh k with
  | .inr (.inr rs) => if i < 0 ∨ rs.2.length ≤ i.toNatClampNeg then none else rs.2[i.toNatClampNeg]?
  | _ => none
def zcp (M : zM) (a : Nat) (sp : Int32) (b : Nat) (dp n : Int32) : Option zM := match sh a, sh b with
  | .inl na, .inl nb => if sp < 0 ∨ dp < 0 ∨ n < 0 ∨ na < sp.toNatClampNeg + n.toNatClampNeg ∨ nb < dp.toNatClampNeg + n.toNatClampNeg then none else some (zCp M a b sp.toNatClampNeg dp.toNatClampNeg n.toNatClampNeg)
  | _, _ => none
/-- a boolean: 0 or 1 -/
def zbo (v : Int32) : Option Int32 := if v = 0 ∨ v = 1 then some v else none
def zdv (a b : Int32) : Option Int32 := if b = 0 then none else some (a / b)
def zrm (a b : Int32) : Option Int32 := if b = 0 then none else some (a - a / b * b)
def zIter {σ ρ : Type} (b : σ → Option (σ ⊕ ρ)) : Nat → σ → Option ρ
  | 0, _ => none
  | n + 1, s => (b s).bind fun y => match y with
    | .inl s' => zIter b n s'
    | .inr r => some r
/-- what follows a round of a loop -/
def zK' {σ ρ τ : Type} (b : σ → Option (σ ⊕ ρ)) (n : Nat) (K : ρ → Option τ) : σ ⊕ ρ → Option τ
  | .inl s' => (zIter b n s').bind K
  | .inr r => K r
theorem zIter_succ {σ ρ τ : Type} {b : σ → Option (σ ⊕ ρ)} {n : Nat} {s : σ} {K : ρ → Option τ} {y : τ} (h : (zIter b (n + 1) s).bind K = some y) : (b s).bind (zK' b n K) = some y := by
  unfold zIter at h
  cases hb : b s with
  | none => rw [hb] at h; cases h
  | some z =>
    rw [hb] at h
    cases z with
    | inl s' => exact h
    | inr r => exact h
/-- a loop: for every fuel and every state, by induction on the fuel -/
theorem zIter_loop {σ ρ τ : Type} {b : σ → Option (σ ⊕ ρ)} {K : ρ → Option τ} {y : τ} (P : σ → Prop) (hs : ∀ (n : Nat) (s : σ), (∀ s', (zIter b n s').bind K = some y → P s') → (b s).bind (zK' b n K) = some y → P s) : ∀ (n : Nat) (s : σ), (zIter b n s).bind K = some y → P s := by
  intro n
  induction n with
  | zero => intro s h; cases h
  | succ n ih => intro s h; exact hs n s ih (zIter_succ h)
theorem zB_bind {α β τ : Type} {o : Option α} {f : α → Option β} {K : β → Option τ} {y : τ} (h : (o.bind f).bind K = some y) : ∃ v, o = some v ∧ (f v).bind K = some y := by
  cases o with
  | none => cases h
  | some v => exact ⟨v, rfl, h⟩
theorem zB_tail {β τ : Type} {o : Option β} {K : β → Option τ} {y : τ} (h : o.bind K = some y) : ∃ v, o = some v ∧ K v = some y := by
  cases o with
  | none => cases h
  | some v => exact ⟨v, rfl, h⟩
theorem zB_pos {β τ : Type} {c : Prop} [Decidable c] {a b : Option β} {K : β → Option τ} {y : τ} (hc : c) (h : (if c then a else b).bind K = some y) : a.bind K = some y := by rwa [if_pos hc] at h
theorem zB_neg {β τ : Type} {c : Prop} [Decidable c] {a b : Option β} {K : β → Option τ} {y : τ} (hc : ¬ c) (h : (if c then a else b).bind K = some y) : b.bind K = some y := by rwa [if_neg hc] at h
-- the cells as the kit's worlds have them
def zfld (ad : Nat → Nat) (M : zM) (k j : Nat) : Option Nat → Value
  | none => .int (M k j)
  | some r => if r = 900 then (if M k j = 0 then .null else .ref (ad 34)) else .ref (ad r)
def zfl (ad : Nat → Nat) (M : zM) (k : Nat) : Nat → List (Option Nat) → List Value
  | _, [] => []
  | j, o :: l => zfld ad M k j o :: zfl ad M k (j + 1) l
theorem zfl_at (ad : Nat → Nat) (M : zM) (k : Nat) : ∀ (l : List (Option Nat)) (j0 j : Nat), (zfl ad M k j0 l)[j]? = (l[j]?).map (zfld ad M k (j0 + j)) := by
  intro l
  induction l with
  | nil => intro j0 j; simp [zfl]
  | cons o l ih =>
    intro j0 j
    cases j with
    | zero => simp [zfl]
    | succ j => simp only [zfl, List.getElem?_cons_succ, ih]; rw [show j0 + 1 + j = j0 + (j + 1) by omega]
theorem zfl_len (ad : Nat → Nat) (M : zM) (k : Nat) : ∀ (l : List (Option Nat)) (j0 : Nat), (zfl ad M k j0 l).length = l.length := by
  intro l
  induction l with
  | nil => intro j0; rfl
  | cons o l ih => intro j0; simp [zfl, ih]
theorem zU_same (M : zM) (k j : Nat) (v : Int32) : zU M k j v k j = v := by simp [zU, upd]
theorem zU_row (M : zM) (k j : Nat) (v : Int32) : zU M k j v k = upd (M k) j v := by simp [zU]
theorem zU_off {M : zM} {k j : Nat} {v : Int32} {k' : Nat} (h : k' ≠ k) : zU M k j v k' = M k' := by simp [zU, h]
theorem zfl_set {ad : Nat → Nat} {M : zM} {k j : Nat} {v : Int32} {l : List (Option Nat)} (hl : l[j]? = some none) : (zfl ad M k 0 l).set j (.int v) = zfl ad (zU M k j v) k 0 l := by
  apply List.ext_getElem?
  intro i
  rw [List.getElem?_set, zfl_at, zfl_at]
  have hlt : j < l.length := (List.getElem?_eq_some_iff.mp hl).1
  by_cases hi : j = i
  · subst hi
    rw [if_pos rfl, zfl_len, if_pos hlt, hl]
    simp [zfld, zU, upd]
  · rw [if_neg hi]
    congr 1
    funext o
    cases o with
    | none => simp [zfld, zU, upd, Ne.symm hi]
    | some r => simp [zfld, zU, upd, Ne.symm hi]
/-- the reader's tape, from null to the tape -/
theorem zfl_setR {ad : Nat → Nat} {M : zM} {k j : Nat} {l : List (Option Nat)} (hl : l[j]? = some (some 900)) : (zfl ad M k 0 l).set j (.ref (ad 34)) = zfl ad (zU M k j 1) k 0 l := by
  apply List.ext_getElem?
  intro i
  rw [List.getElem?_set, zfl_at, zfl_at]
  have hlt : j < l.length := (List.getElem?_eq_some_iff.mp hl).1
  by_cases hi : j = i
  · subst hi
    rw [if_pos rfl, zfl_len, if_pos hlt, hl]
    simp [zfld, zU, upd]
  · rw [if_neg hi]
    congr 1
    funext o
    cases o with
    | none => simp [zfld, zU, upd, Ne.symm hi]
    | some r => simp [zfld, zU, upd, Ne.symm hi]
abbrev zG : Type := va_G × ClassId × (Nat → ClassId)
def zE (G : zG) (ad : Nat → Nat) (M : zM) (k : Nat) : va_E := match sh k with
  | .inl n => .inl (G.2.1, n, .inl (M k))
  | .inr (.inl q) => .inr (q.1, zfl ad M k 0 q.2)
  | .inr (.inr rs) => .inl (G.2.2 rs.1, rs.2.length, .inr (.inr (.inr (.inr fun j => (rs.2[j]?).map ad))))
def zW (G : zG) (ad : Nat → Nat) (M : zM) : va_W := (List.range NC).map fun k => (ad k, zE G ad M k)
theorem zW_at {G : zG} {ad : Nat → Nat} {M : zM} {k : Nat} (hk : k < NC) : (zW G ad M)[k]? = some (ad k, zE G ad M k) := by
  unfold zW
  rw [List.getElem?_map, List.getElem?_range hk]
  rfl
theorem zE_off {G : zG} {ad : Nat → Nat} {M M' : zM} {k : Nat} (h : M' k = M k) : zE G ad M' k = zE G ad M k := by
  have hf : ∀ (l : List (Option Nat)) (j : Nat), zfl ad M' k j l = zfl ad M k j l := by
    intro l
    induction l with
    | nil => intro j; rfl
    | cons o l ih => intro j; cases o <;> simp [zfl, zfld, ih, h]
  unfold zE
  cases sh k with
  | inl n => simp [h]
  | inr q => cases q with
    | inl q => simp [hf]
    | inr rs => rfl
theorem zW_set {G : zG} {ad : Nat → Nat} {M M' : zM} {k : Nat} {e' : va_E} (hk : k < NC) (he : e' = zE G ad M' k) (ho : ∀ q, q ≠ k → M' q = M q) : (zW G ad M).set k (ad k, e') = zW G ad M' := by
  subst he
  apply List.ext_getElem?
  intro i
  rw [List.getElem?_set]
  by_cases hi : k = i
  · subst hi
    rw [if_pos rfl, zW_at hk, if_pos]
    unfold zW; simp; exact hk
  · rw [if_neg hi]
    by_cases hl : i < NC
    · rw [zW_at hl, zW_at hl, zE_off (ho i (Ne.symm hi))]
    · unfold zW; rw [List.getElem?_eq_none (by simp; omega), List.getElem?_eq_none (by simp; omega)]
/-- which cells a method may change: the world's, and those that are made -/
def zA (ad : Nat → Nat) (sz : Nat) : Nat → Prop := fun q => (∃ k, k < NC ∧ q = ad k) ∨ sz ≤ q
theorem zA_in {ad : Nat → Nat} {sz k : Nat} (hk : k < NC) : zA ad sz (ad k) := Or.inl ⟨k, hk, rfl⟩
theorem zA_mono {ad : Nat → Nat} {sz sz' : Nat} (h : sz ≤ sz') : ∀ q, zA ad sz' q → zA ad sz q := fun _ hq => hq.elim Or.inl (fun h' => Or.inr (Nat.le_trans h h'))
/-- the addresses are apart -/
def zInj (ad : Nat → Nat) : Prop := ∀ i j, i < NC → j < NC → ad i = ad j → i = j
theorem zD {G : zG} {ad : Nat → Nat} {M : zM} {sz : Nat} (h : zInj ad) : va_D (zA ad sz) (zW G ad M) := by
  have lt : ∀ {k : Nat} {q : Nat × va_E}, (zW G ad M)[k]? = some q → k < NC ∧ q.1 = ad k := by
    intro k q hq
    have hk : k < NC := by
      have := (List.getElem?_eq_some_iff.mp hq).1
      simpa [zW] using this
    rw [zW_at hk] at hq
    cases hq
    exact ⟨hk, rfl⟩
  refine ⟨fun i j p q hp hq e => ?_, fun k q hq => ?_⟩
  · obtain ⟨h1, h2⟩ := lt hp
    obtain ⟨h3, h4⟩ := lt hq
    exact h i j h1 h3 (by rw [← h2, ← h4, e])
  · obtain ⟨h1, h2⟩ := lt hq
    rw [h2]
    exact zA_in h1
-- values: references are numbers of cells
def cv (ad : Nat → Nat) : Value → Value
  | .ref k => .ref (ad k)
  | v => v
theorem cv_cat (ad : Nat → Nat) (v : Value) : (cv ad v).category = v.category := by cases v <;> rfl
-- the classes
abbrev zCl : List vw_C := [(RX0, TX0, 15), (RX2, TX2, 5), (RX3, TX3, 3), (RX4, TX4, 2), (RX5, TX5, 8), (RX6, TX6, 22)]
abbrev zTy (G : zG) : List (ClassId × FieldType) := [(G.2.1, .int), (G.2.2 1, .object "NameRail$Sheet"), (G.2.2 2, .object "java/lang/String")]
/-- the good words of the tables -/
def zTB : List Cond := lw_tbl.filter goodWord
theorem zw {w : Cond} (i : Nat) (h : (lw_tbl[i]? == some w && goodWord w) = true) : w ∈ zTB := by
  simp only [Bool.and_eq_true, beq_iff_eq] at h
  exact List.mem_filter.mpr ⟨List.mem_of_getElem? h.1, h.2⟩
theorem zTB_good (w : Cond) (h : w ∈ zTB) : w ∈ lw_tbl ∧ goodWord w = true := List.mem_filter.mp h
theorem zTB_goodIn {c : Cond} {ws : List Cond} (hw : c ∈ zTB) (hs : ∀ w ∈ ws, w ∈ zTB) : GoodIn zTB (c :: ws) := by
  intro w h
  rcases List.mem_cons.mp h with rfl | h
  · exact ⟨hw, good_of_word (zTB_good _ hw).2⟩
  · exact ⟨hs _ h, good_of_word (zTB_good _ (hs _ h)).2⟩
end
section
/-! THE ROWS: VV E nL pc L S M: the method, at pc with the locals L, the stack S and the memory M, comes to its end. -/
def zLen : List Nat := [4, 9, 6, 4, 7, 5, 4, 6, 5, 4, 7, 5, 6]
def zByt : List (List Int32) := [[110, 97, 109, 101], [115, 116, 114, 101, 116, 99, 104, 101, 100], [100, 111, 117, 98, 108, 101], [108, 101, 102, 116], [110, 111, 98, 111, 100, 121, 115], [109, 111, 116, 104, 121], [116, 111, 114, 110], [112, 101, 114, 115, 111, 110], [111, 114, 100, 101, 114], [119, 111, 114, 110], [97, 103, 97, 105, 110, 115, 116], [112, 117, 114, 115, 101], [119, 105, 115, 104, 101, 115]]
def zStrs : List (String × Nat × String × Nat) := [("NameRail$Reader", 70, "name", 0), ("NameRail$Reader", 78, "stretched", 1), ("NameRail$Reader", 80, "double", 2), ("NameRail$Reader", 82, "left", 3), ("NameRail$Reader", 84, "nobodys", 4), ("NameRail$Reader", 86, "mothy", 5), ("NameRail$Reader", 88, "torn", 6), ("NameRail$Reader", 115, "worn", 9), ("NameRail$Reader", 117, "against", 10), ("NameRail$Reader", 102, "person", 7), ("NameRail$Reader", 123, "purse", 11), ("NameRail$Reader", 128, "wishes", 12), ("NameRail$Reader", 107, "order", 8), ("NameRailModel", 33, "name", 0), ("NameRailModel", 35, "stretched", 1), ("NameRailModel", 37, "double", 2), ("NameRailModel", 39, "left", 3), ("NameRailModel", 41, "nobodys", 4), ("NameRailModel", 43, "mothy", 5), ("NameRailModel", 45, "torn", 6), ("NameRailModel", 289, "worn", 9), ("NameRailModel", 295, "against", 10), ("NameRailModel", 301, "order", 8), ("NameRailModel", 303, "person", 7), ("NameRailModel", 305, "purse", 11), ("NameRailModel", 307, "wishes", 12)]
/-- the strings, the statics of the JDK: what no method of ours changes -/
def zExt (ad : Nat → Nat) (A : Nat → Prop) (U : State) (H : Heap) : Prop := vk_S 13 zLen zByt (fun i => ad (1000 + i)) (fun i => ad (2000 + i)) A U H ∧ va_Z "java/lang/String" "COMPACT_STRINGS" "Z" (.int 1) A U H ∧ va_Zq "jdk/internal/util/Preconditions" "SIOOBE_FORMATTER" "Ljava/util/function/BiFunction;" A U H ∧ ∀ q ∈ zStrs, vk_R q.1 q.2.1 q.2.2.1 (ad (1000 + q.2.2.2)) U
theorem zExt_kept {ad : Nat → Nat} {A : Nat → Prop} {U : State} {H H1 : Heap} (h : zExt ad A U H) (hq : ∀ a : Nat, a < H.size → ¬ A a → H1[a]? = H[a]?) : zExt ad A U H1 := ⟨h.1.kept hq, h.2.1.kept hq, h.2.2.1.kept hq, h.2.2.2⟩
theorem zExt_narrow {ad : Nat → Nat} {A B : Nat → Prop} {U : State} {H : Heap} (h : zExt ad A U H) (hAB : ∀ q, B q → A q) : zExt ad B U H := ⟨h.1.narrow hAB, h.2.1.narrow hAB, h.2.2.1.narrow hAB, h.2.2.2⟩
theorem zExt_warm {ad : Nat → Nat} {A : Nat → Prop} {s U : State} {H : Heap} (hW : s.WarmedH U.vm) (h : zExt ad A s H) : zExt ad A U H := ⟨h.1.moved hW.alike, h.2.1.moved hW.alike, h.2.2.1.moved hW.alike, fun q hq => (h.2.2.2 q hq).warm hW⟩
theorem zExt_same {ad : Nat → Nat} {A : Nat → Prop} {u U : State} {H : Heap} (hv : U.vm = u.vm) (h : zExt ad A u H) : zExt ad A U H := by
  have ha : u.vm.Alike U.vm := by rw [hv]; exact Vm.Alike.refl u.vm
  exact ⟨h.1.moved ha, h.2.1.moved ha, h.2.2.1.moved ha, fun q hq => (h.2.2.2 q hq).same hv⟩
/-- a method's run: the machine, its room, its start, its code, where it goes, the classes, the addresses, what was made -/
def zEv : Type := Program × Launch × Env × Room × State × MethodId × Array Value × List Frame × Method × Code × (State → Prop) × zG × (Nat → Nat) × Nat × Nat
abbrev ep (E : zEv) : Program := E.1
abbrev el (E : zEv) : Launch := E.2.1
abbrev ee (E : zEv) : Env := E.2.2.1
abbrev eR (E : zEv) : Room := E.2.2.2.1
abbrev es (E : zEv) : State := E.2.2.2.2.1
abbrev em (E : zEv) : MethodId := E.2.2.2.2.2.1
abbrev ea (E : zEv) : Array Value := E.2.2.2.2.2.2.1
abbrev ebl (E : zEv) : List Frame := E.2.2.2.2.2.2.2.1
abbrev eme (E : zEv) : Method := E.2.2.2.2.2.2.2.2.1
abbrev ec (E : zEv) : Code := E.2.2.2.2.2.2.2.2.2.1
abbrev eQ (E : zEv) : State → Prop := E.2.2.2.2.2.2.2.2.2.2.1
abbrev eG (E : zEv) : zG := E.2.2.2.2.2.2.2.2.2.2.2.1
abbrev ead (E : zEv) : Nat → Nat := E.2.2.2.2.2.2.2.2.2.2.2.2.1
abbrev ecl (E : zEv) : Nat := E.2.2.2.2.2.2.2.2.2.2.2.2.2.1
abbrev esl (E : zEv) : Nat := E.2.2.2.2.2.2.2.2.2.2.2.2.2.2
abbrev eA (E : zEv) : Nat → Prop := zA (ead E) (es E).heap.size
def zL (E : zEv) (L : List (Nat × Value)) : List (Nat × Value) := L.map fun q => (q.1, cv (ead E) q.2)
def VV (E : zEv) (nL pc : Nat) (L : List (Nat × Value)) (S : List Value) (M : zM) : Prop :=
  ∀ (H : Heap) (locs : List Loc) (ls : Array Slot), va_P (eG E).1 zCl (zW (eG E) (ead E) M) H → va_S (eA E) (es E).heap H locs → lv_has ls nL (zL E L) → W (ep E) (el E) (ee E) (eR E) (es E) (em E) (ea E) (ebl E) (eme E) (ec E) H locs (ecl E) (esl E) (eQ E) (F0 (em E) pc ls (S.map (cv (ead E))))
/-- what a run knows: the machine's rules, its code, its class, the tables' words, the classes, that the addresses are apart, the strings; its room -/
def zC (E : zEv) (cc : ByteArray) (nL : Nat) (own : String) (fr lo : Nat) : Prop :=
  (ep E).tables.exec = Jvm.exec ∧ (ec E).code = cc ∧ (ec E).maxLocals = nL ∧ (es E).vm.findClass own = some (em E).cls ∧ (∀ w ∈ zTB, w.before (ea E) (es E) = true) ∧ va_K (eG E).1 zCl (zTy (eG E)) (es E) ∧ zInj (ead E) ∧ zExt (ead E) (eA E) (es E) (es E).heap ∧ (fr ≤ (eR E).frames ∧ lo ≤ (eR E).locals) ∧ ecl E ≤ (eR E).cells ∧ esl E ≤ (eR E).slots
theorem zL_at {E : zEv} {ls : Array Slot} {nL : Nat} {L : List (Nat × Value)} (h : lv_has ls nL (zL E L)) {k i : Nat} {v : Value} (hk : L[k]? = some (i, v)) : ls[i]? = some (.val (cv (ead E) v)) := lv_at h k (by unfold zL; rw [List.getElem?_map, hk]; rfl)
theorem zL_f1 {E : zEv} {L L' : List (Nat × Value)} {i : Nat} {v : Value} (h : (i, v) :: L.filter (fun q => !(q.1 == i) && !(q.1 + 1 == i && q.2.category == 2)) = L') : (i, cv (ead E) v) :: (zL E L).filter (fun q => !(q.1 == i) && !(q.1 + 1 == i && q.2.category == 2)) = zL E L' := by
  subst h
  unfold zL
  rw [List.map_cons, List.filter_map]
  congr 2
  congr 1
  funext q
  simp [cv_cat]
theorem zL_f2 {E : zEv} {L L' : List (Nat × Value)} {i : Nat} {v : Value} (h : (i, v) :: L.filter (fun q => !(q.1 == i) && (!(q.1 == i + 1) && !(q.1 + 1 == i && q.2.category == 2))) = L') : (i, cv (ead E) v) :: (zL E L).filter (fun q => !(q.1 == i) && (!(q.1 == i + 1) && !(q.1 + 1 == i && q.2.category == 2))) = zL E L' := by
  subst h
  unfold zL
  rw [List.map_cons, List.filter_map]
  congr 2
  congr 1
  funext q
  simp [cv_cat]
theorem zL_sub {E : zEv} {ls : Array Slot} {nL : Nat} {L L' : List (Nat × Value)} (h : lv_has ls nL (zL E L)) (hs : ∀ q ∈ L', q ∈ L) : lv_has ls nL (zL E L') := by
  refine ⟨h.1, h.2.1, fun q hq => ?_⟩
  unfold zL at hq
  obtain ⟨r, hr, rfl⟩ := List.mem_map.mp hq
  exact h.2.2 _ (List.mem_map.mpr ⟨r, hs r hr, rfl⟩)
/-- fewer locals, in another order -/
theorem V_sub {E : zEv} {nL pc : Nat} {L L' : List (Nat × Value)} {S : List Value} {M : zM} (ks : List Nat) (hL : lv_pick L ks = L') (k : VV E nL pc L' S M) : VV E nL pc L S M := fun H locs ls hP hS hl => k H locs ls hP hS (zL_sub hl (fun q hq => by
  subst hL
  obtain ⟨i, -, hi⟩ := List.mem_filterMap.mp hq
  exact List.mem_of_getElem? hi))
theorem V_iadd {E : zEv} {cc : ByteArray} {nL pc fr lo : Nat} {own : String} {L : List (Nat × Value)} {S : List Value} {M : zM} {x y : Int32} (Z : zC E cc nL own fr lo) (hd : decode cc pc = .ok (.iadd, 1)) (k : VV E nL (pc + 1) L (.int (x + y) :: S) M) : VV E nL pc L (.int y :: .int x :: S) M := fun H locs ls hP hS hl => lv_iadd Z.1 Z.2.1 hd (k H locs ls hP hS hl)
theorem V_isub {E : zEv} {cc : ByteArray} {nL pc fr lo : Nat} {own : String} {L : List (Nat × Value)} {S : List Value} {M : zM} {x y : Int32} (Z : zC E cc nL own fr lo) (hd : decode cc pc = .ok (.isub, 1)) (k : VV E nL (pc + 1) L (.int (x - y) :: S) M) : VV E nL pc L (.int y :: .int x :: S) M := fun H locs ls hP hS hl => lv_isub Z.1 Z.2.1 hd (k H locs ls hP hS hl)
theorem V_imul {E : zEv} {cc : ByteArray} {nL pc fr lo : Nat} {own : String} {L : List (Nat × Value)} {S : List Value} {M : zM} {x y : Int32} (Z : zC E cc nL own fr lo) (hd : decode cc pc = .ok (.imul, 1)) (k : VV E nL (pc + 1) L (.int (x * y) :: S) M) : VV E nL pc L (.int y :: .int x :: S) M := fun H locs ls hP hS hl => lv_imul Z.1 Z.2.1 hd (k H locs ls hP hS hl)
theorem V_iand {E : zEv} {cc : ByteArray} {nL pc fr lo : Nat} {own : String} {L : List (Nat × Value)} {S : List Value} {M : zM} {x y : Int32} (Z : zC E cc nL own fr lo) (hd : decode cc pc = .ok (.iand, 1)) (k : VV E nL (pc + 1) L (.int (x &&& y) :: S) M) : VV E nL pc L (.int y :: .int x :: S) M := fun H locs ls hP hS hl => lv_iand Z.1 Z.2.1 hd (k H locs ls hP hS hl)
theorem V_ior {E : zEv} {cc : ByteArray} {nL pc fr lo : Nat} {own : String} {L : List (Nat × Value)} {S : List Value} {M : zM} {x y : Int32} (Z : zC E cc nL own fr lo) (hd : decode cc pc = .ok (.ior, 1)) (k : VV E nL (pc + 1) L (.int (x ||| y) :: S) M) : VV E nL pc L (.int y :: .int x :: S) M := fun H locs ls hP hS hl => lv_ior Z.1 Z.2.1 hd (k H locs ls hP hS hl)
theorem V_ixor {E : zEv} {cc : ByteArray} {nL pc fr lo : Nat} {own : String} {L : List (Nat × Value)} {S : List Value} {M : zM} {x y : Int32} (Z : zC E cc nL own fr lo) (hd : decode cc pc = .ok (.ixor, 1)) (k : VV E nL (pc + 1) L (.int (x ^^^ y) :: S) M) : VV E nL pc L (.int y :: .int x :: S) M := fun H locs ls hP hS hl => lv_ixor Z.1 Z.2.1 hd (k H locs ls hP hS hl)
theorem V_ishl {E : zEv} {cc : ByteArray} {nL pc fr lo : Nat} {own : String} {L : List (Nat × Value)} {S : List Value} {M : zM} {x y : Int32} (Z : zC E cc nL own fr lo) (hd : decode cc pc = .ok (.ishl, 1)) (k : VV E nL (pc + 1) L (.int (x <<< (y &&& 31)) :: S) M) : VV E nL pc L (.int y :: .int x :: S) M := fun H locs ls hP hS hl => lv_ishl Z.1 Z.2.1 hd (k H locs ls hP hS hl)
theorem V_ishr {E : zEv} {cc : ByteArray} {nL pc fr lo : Nat} {own : String} {L : List (Nat × Value)} {S : List Value} {M : zM} {x y : Int32} (Z : zC E cc nL own fr lo) (hd : decode cc pc = .ok (.ishr, 1)) (k : VV E nL (pc + 1) L (.int (x >>> (y &&& 31)) :: S) M) : VV E nL pc L (.int y :: .int x :: S) M := fun H locs ls hP hS hl => lv_ishr Z.1 Z.2.1 hd (k H locs ls hP hS hl)
theorem V_iushr {E : zEv} {cc : ByteArray} {nL pc fr lo : Nat} {own : String} {L : List (Nat × Value)} {S : List Value} {M : zM} {x y : Int32} (Z : zC E cc nL own fr lo) (hd : decode cc pc = .ok (.iushr, 1)) (k : VV E nL (pc + 1) L (.int ((x.toUInt32 >>> (y.toUInt32 &&& Int32.toUInt32 31)).toInt32) :: S) M) : VV E nL pc L (.int y :: .int x :: S) M := fun H locs ls hP hS hl => lv_iushr Z.1 Z.2.1 hd rfl (k H locs ls hP hS hl)
theorem V_idiv {E : zEv} {cc : ByteArray} {nL pc fr lo : Nat} {own : String} {L : List (Nat × Value)} {S : List Value} {M : zM} {x y v : Int32} (Z : zC E cc nL own fr lo) (hv : zdv x y = some v) (hd : decode cc pc = .ok (.idiv, 1)) (k : VV E nL (pc + 1) L (.int v :: S) M) : VV E nL pc L (.int y :: .int x :: S) M := by
  unfold zdv at hv
  split at hv
  · cases hv
  · cases hv; exact fun H locs ls hP hS hl => lv_idiv Z.1 Z.2.1 hd (by assumption) (k H locs ls hP hS hl)
theorem V_irem {E : zEv} {cc : ByteArray} {nL pc fr lo : Nat} {own : String} {L : List (Nat × Value)} {S : List Value} {M : zM} {x y v : Int32} (Z : zC E cc nL own fr lo) (hv : zrm x y = some v) (hd : decode cc pc = .ok (.irem, 1)) (k : VV E nL (pc + 1) L (.int v :: S) M) : VV E nL pc L (.int y :: .int x :: S) M := by
  unfold zrm at hv
  split at hv
  · cases hv
  · cases hv; exact fun H locs ls hP hS hl => lv_irem Z.1 Z.2.1 hd (by assumption) (k H locs ls hP hS hl)
theorem V_idivc {E : zEv} {cc : ByteArray} {nL pc fr lo : Nat} {own : String} {L : List (Nat × Value)} {S : List Value} {M : zM} {x y : Int32} (hne : ¬ y = 0) (Z : zC E cc nL own fr lo) (hd : decode cc pc = .ok (.idiv, 1)) (k : VV E nL (pc + 1) L (.int (x / y) :: S) M) : VV E nL pc L (.int y :: .int x :: S) M := fun H locs ls hP hS hl => lv_idiv Z.1 Z.2.1 hd hne (k H locs ls hP hS hl)
theorem V_iremc {E : zEv} {cc : ByteArray} {nL pc fr lo : Nat} {own : String} {L : List (Nat × Value)} {S : List Value} {M : zM} {x y : Int32} (hne : ¬ y = 0) (Z : zC E cc nL own fr lo) (hd : decode cc pc = .ok (.irem, 1)) (k : VV E nL (pc + 1) L (.int (x - x / y * y) :: S) M) : VV E nL pc L (.int y :: .int x :: S) M := fun H locs ls hP hS hl => lv_irem Z.1 Z.2.1 hd hne (k H locs ls hP hS hl)
theorem V_ladd {E : zEv} {cc : ByteArray} {nL pc fr lo : Nat} {own : String} {L : List (Nat × Value)} {S : List Value} {M : zM} {x y : Int64} (Z : zC E cc nL own fr lo) (hd : decode cc pc = .ok (.ladd, 1)) (k : VV E nL (pc + 1) L (.long (x + y) :: S) M) : VV E nL pc L (.long y :: .long x :: S) M := fun H locs ls hP hS hl => lv_ladd Z.1 Z.2.1 hd (k H locs ls hP hS hl)
theorem V_lmul {E : zEv} {cc : ByteArray} {nL pc fr lo : Nat} {own : String} {L : List (Nat × Value)} {S : List Value} {M : zM} {x y : Int64} (Z : zC E cc nL own fr lo) (hd : decode cc pc = .ok (.lmul, 1)) (k : VV E nL (pc + 1) L (.long (x * y) :: S) M) : VV E nL pc L (.long y :: .long x :: S) M := fun H locs ls hP hS hl => lv_lmul Z.1 Z.2.1 hd (k H locs ls hP hS hl)
theorem V_lcmp {E : zEv} {cc : ByteArray} {nL pc fr lo : Nat} {own : String} {L : List (Nat × Value)} {S : List Value} {M : zM} {x y : Int64} (Z : zC E cc nL own fr lo) (hd : decode cc pc = .ok (.lcmp, 1)) (k : VV E nL (pc + 1) L (.int (lg_cmp x y) :: S) M) : VV E nL pc L (.long y :: .long x :: S) M := fun H locs ls hP hS hl => W.lcmp Z.1 Z.2.1 hd (k H locs ls hP hS hl)
theorem V_ineg {E : zEv} {cc : ByteArray} {nL pc fr lo : Nat} {own : String} {L : List (Nat × Value)} {S : List Value} {M : zM} {x : Int32} (Z : zC E cc nL own fr lo) (hd : decode cc pc = .ok (.ineg, 1)) (k : VV E nL (pc + 1) L (.int (-x) :: S) M) : VV E nL pc L (.int x :: S) M := fun H locs ls hP hS hl => lv_ineg Z.1 Z.2.1 hd (k H locs ls hP hS hl)
theorem V_i2l {E : zEv} {cc : ByteArray} {nL pc fr lo : Nat} {own : String} {L : List (Nat × Value)} {S : List Value} {M : zM} {x : Int32} (Z : zC E cc nL own fr lo) (hd : decode cc pc = .ok (.i2l, 1)) (k : VV E nL (pc + 1) L (.long x.toInt64 :: S) M) : VV E nL pc L (.int x :: S) M := fun H locs ls hP hS hl => lv_i2l Z.1 Z.2.1 hd rfl (k H locs ls hP hS hl)
theorem V_i2b {E : zEv} {cc : ByteArray} {nL pc fr lo : Nat} {own : String} {L : List (Nat × Value)} {S : List Value} {M : zM} {x : Int32} (Z : zC E cc nL own fr lo) (hd : decode cc pc = .ok (.i2b, 1)) (k : VV E nL (pc + 1) L (.int x.toInt8.toInt32 :: S) M) : VV E nL pc L (.int x :: S) M := fun H locs ls hP hS hl => lv_i2b Z.1 Z.2.1 hd rfl (k H locs ls hP hS hl)
theorem V_i2s {E : zEv} {cc : ByteArray} {nL pc fr lo : Nat} {own : String} {L : List (Nat × Value)} {S : List Value} {M : zM} {x : Int32} (Z : zC E cc nL own fr lo) (hd : decode cc pc = .ok (.i2s, 1)) (k : VV E nL (pc + 1) L (.int x.toInt16.toInt32 :: S) M) : VV E nL pc L (.int x :: S) M := fun H locs ls hP hS hl => lv_i2s Z.1 Z.2.1 hd rfl (k H locs ls hP hS hl)
theorem V_iconst {E : zEv} {cc : ByteArray} {nL pc fr lo : Nat} {own : String} {L : List (Nat × Value)} {S : List Value} {M : zM} {n : Int} (v : Int32) (hv : Int32.ofInt n = v) (Z : zC E cc nL own fr lo) (hd : decode cc pc = .ok (.iconst n, 1)) (k : VV E nL (pc + 1) L (.int v :: S) M) : VV E nL pc L (S) M := fun H locs ls hP hS hl => lv_iconst Z.1 Z.2.1 hd hv (k H locs ls hP hS hl)
theorem V_bipush {E : zEv} {cc : ByteArray} {nL pc fr lo : Nat} {own : String} {L : List (Nat × Value)} {S : List Value} {M : zM} {n : Int} (v : Int32) (hv : (Int8.ofInt n).toInt32 = v) (Z : zC E cc nL own fr lo) (hd : decode cc pc = .ok (.bipush n, 2)) (k : VV E nL (pc + 2) L (.int v :: S) M) : VV E nL pc L (S) M := fun H locs ls hP hS hl => lv_bipush Z.1 Z.2.1 hd hv (k H locs ls hP hS hl)
theorem V_sipush {E : zEv} {cc : ByteArray} {nL pc fr lo : Nat} {own : String} {L : List (Nat × Value)} {S : List Value} {M : zM} {n : Int} (v : Int32) (hv : (Int16.ofInt n).toInt32 = v) (Z : zC E cc nL own fr lo) (hd : decode cc pc = .ok (.sipush n, 3)) (k : VV E nL (pc + 3) L (.int v :: S) M) : VV E nL pc L (S) M := fun H locs ls hP hS hl => lv_sipush Z.1 Z.2.1 hd hv (k H locs ls hP hS hl)
theorem V_lconst {E : zEv} {cc : ByteArray} {nL pc fr lo : Nat} {own : String} {L : List (Nat × Value)} {S : List Value} {M : zM} {n : Fin 2} (v : Int64) (hv : Int64.ofNat (n : Nat) = v) (Z : zC E cc nL own fr lo) (hd : decode cc pc = .ok (.lconst n, 1)) (k : VV E nL (pc + 1) L (.long v :: S) M) : VV E nL pc L (S) M := fun H locs ls hP hS hl => lv_lconst Z.1 Z.2.1 hd hv (k H locs ls hP hS hl)
theorem V_ldc {E : zEv} {cc : ByteArray} {nL pc fr lo : Nat} {own : String} {L : List (Nat × Value)} {S : List Value} {M : zM} {index : Nat} (v : Int32) (Z : zC E cc nL own fr lo) (hw : Cond.constant own index v ∈ zTB) (hd : decode cc pc = .ok (.ldc index, 2)) (k : VV E nL (pc + 2) L (.int v :: S) M) : VV E nL pc L S M := fun H locs ls hP hS hl => lv_ldc Z.1 Z.2.1 Z.2.2.2.1 (Z.2.2.2.2.1 _ hw) hd (k H locs ls hP hS hl)
theorem V_ldcS {E : zEv} {cc : ByteArray} {nL pc fr lo : Nat} {own : String} {L : List (Nat × Value)} {S : List Value} {M : zM} {index : Nat} (tx : String) (i : Nat) (Z : zC E cc nL own fr lo) (hq : (own, index, tx, i) ∈ zStrs) (hd : decode cc pc = .ok (.ldc index, 2)) (k : VV E nL (pc + 2) L (.ref (1000 + i) :: S) M) : VV E nL pc L S M := fun H locs ls hP hS hl => va_ldcS Z.1 Z.2.1 Z.2.2.2.1 (Z.2.2.2.2.2.2.2.1.2.2.2 _ hq) hd (k H locs ls hP hS hl)
theorem V_iload_n {E : zEv} {cc : ByteArray} {nL pc fr lo : Nat} {own : String} {L : List (Nat × Value)} {S : List Value} {M : zM} {f : Fin 4} {i : Nat} {x : Int32} (q : Nat) (Z : zC E cc nL own fr lo) (hL : L[q]? = some (i, .int x)) (hi : (f : Nat) = i) (hd : decode cc pc = .ok (.iload_n f, 1)) (k : VV E nL (pc + 1) L (.int x :: S) M) : VV E nL pc L S M := fun H locs ls hP hS hl => lv_iload_n Z.1 Z.2.1 hd hi (zL_at hl hL) (k H locs ls hP hS hl)
theorem V_iload {E : zEv} {cc : ByteArray} {nL pc fr lo : Nat} {own : String} {L : List (Nat × Value)} {S : List Value} {M : zM} {i : Nat} {x : Int32} (q : Nat) (Z : zC E cc nL own fr lo) (hL : L[q]? = some (i, .int x)) (hd : decode cc pc = .ok (.iload i, 2)) (k : VV E nL (pc + 2) L (.int x :: S) M) : VV E nL pc L S M := fun H locs ls hP hS hl => lv_iload Z.1 Z.2.1 hd (zL_at hl hL) (k H locs ls hP hS hl)
theorem V_istore_n {E : zEv} {cc : ByteArray} {nL pc fr lo : Nat} {own : String} {L : List (Nat × Value)} {S : List Value} {M : zM} {f : Fin 4} {i : Nat} {x : Int32} (L2 : List (Nat × Value)) (Z : zC E cc nL own fr lo) (hn : i < nL) (hL : (i, Value.int x) :: L.filter (fun q => !(q.1 == i) && !(q.1 + 1 == i && q.2.category == 2)) = L2) (hi : (f : Nat) = i) (hd : decode cc pc = .ok (.istore_n f, 1)) (k : VV E nL (pc + 1) L2 S M) : VV E nL pc L (.int x :: S) M := fun H locs ls hP hS hl => lv_istore_n Z.1 Z.2.1 hd hi hl hn (zL_f1 (E := E) hL) (fun ls2 hl2 => k H locs ls2 hP hS hl2)
theorem V_istore {E : zEv} {cc : ByteArray} {nL pc fr lo : Nat} {own : String} {L : List (Nat × Value)} {S : List Value} {M : zM} {i : Nat} {x : Int32} (L2 : List (Nat × Value)) (Z : zC E cc nL own fr lo) (hn : i < nL) (hL : (i, Value.int x) :: L.filter (fun q => !(q.1 == i) && !(q.1 + 1 == i && q.2.category == 2)) = L2) (hd : decode cc pc = .ok (.istore i, 2)) (k : VV E nL (pc + 2) L2 S M) : VV E nL pc L (.int x :: S) M := fun H locs ls hP hS hl => lv_istore Z.1 Z.2.1 hd hl hn (zL_f1 (E := E) hL) (fun ls2 hl2 => k H locs ls2 hP hS hl2)
theorem V_aload_n {E : zEv} {cc : ByteArray} {nL pc fr lo : Nat} {own : String} {L : List (Nat × Value)} {S : List Value} {M : zM} {f : Fin 4} {i : Nat} {x : Nat} (q : Nat) (Z : zC E cc nL own fr lo) (hL : L[q]? = some (i, .ref x)) (hi : (f : Nat) = i) (hd : decode cc pc = .ok (.aload_n f, 1)) (k : VV E nL (pc + 1) L (.ref x :: S) M) : VV E nL pc L S M := fun H locs ls hP hS hl => lv_aload_n Z.1 Z.2.1 hd hi (zL_at hl hL) (k H locs ls hP hS hl)
theorem V_aload {E : zEv} {cc : ByteArray} {nL pc fr lo : Nat} {own : String} {L : List (Nat × Value)} {S : List Value} {M : zM} {i : Nat} {x : Nat} (q : Nat) (Z : zC E cc nL own fr lo) (hL : L[q]? = some (i, .ref x)) (hd : decode cc pc = .ok (.aload i, 2)) (k : VV E nL (pc + 2) L (.ref x :: S) M) : VV E nL pc L S M := fun H locs ls hP hS hl => lv_aload Z.1 Z.2.1 hd (zL_at hl hL) (k H locs ls hP hS hl)
theorem V_astore_n {E : zEv} {cc : ByteArray} {nL pc fr lo : Nat} {own : String} {L : List (Nat × Value)} {S : List Value} {M : zM} {f : Fin 4} {i : Nat} {x : Nat} (L2 : List (Nat × Value)) (Z : zC E cc nL own fr lo) (hn : i < nL) (hL : (i, Value.ref x) :: L.filter (fun q => !(q.1 == i) && !(q.1 + 1 == i && q.2.category == 2)) = L2) (hi : (f : Nat) = i) (hd : decode cc pc = .ok (.astore_n f, 1)) (k : VV E nL (pc + 1) L2 S M) : VV E nL pc L (.ref x :: S) M := fun H locs ls hP hS hl => lv_astore_n Z.1 Z.2.1 hd hi hl hn (zL_f1 (E := E) hL) (fun ls2 hl2 => k H locs ls2 hP hS hl2)
theorem V_astore {E : zEv} {cc : ByteArray} {nL pc fr lo : Nat} {own : String} {L : List (Nat × Value)} {S : List Value} {M : zM} {i : Nat} {x : Nat} (L2 : List (Nat × Value)) (Z : zC E cc nL own fr lo) (hn : i < nL) (hL : (i, Value.ref x) :: L.filter (fun q => !(q.1 == i) && !(q.1 + 1 == i && q.2.category == 2)) = L2) (hd : decode cc pc = .ok (.astore i, 2)) (k : VV E nL (pc + 2) L2 S M) : VV E nL pc L (.ref x :: S) M := fun H locs ls hP hS hl => lv_astore Z.1 Z.2.1 hd hl hn (zL_f1 (E := E) hL) (fun ls2 hl2 => k H locs ls2 hP hS hl2)
theorem V_lload_n {E : zEv} {cc : ByteArray} {nL pc fr lo : Nat} {own : String} {L : List (Nat × Value)} {S : List Value} {M : zM} {f : Fin 4} {i : Nat} {x : Int64} (q : Nat) (Z : zC E cc nL own fr lo) (hL : L[q]? = some (i, .long x)) (hi : (f : Nat) = i) (hd : decode cc pc = .ok (.lload_n f, 1)) (k : VV E nL (pc + 1) L (.long x :: S) M) : VV E nL pc L S M := fun H locs ls hP hS hl => lv_lload_n Z.1 Z.2.1 hd hi (zL_at hl hL) (k H locs ls hP hS hl)
theorem V_lload {E : zEv} {cc : ByteArray} {nL pc fr lo : Nat} {own : String} {L : List (Nat × Value)} {S : List Value} {M : zM} {i : Nat} {x : Int64} (q : Nat) (Z : zC E cc nL own fr lo) (hL : L[q]? = some (i, .long x)) (hd : decode cc pc = .ok (.lload i, 2)) (k : VV E nL (pc + 2) L (.long x :: S) M) : VV E nL pc L S M := fun H locs ls hP hS hl => lv_lload Z.1 Z.2.1 hd (zL_at hl hL) (k H locs ls hP hS hl)
theorem V_lstore_n {E : zEv} {cc : ByteArray} {nL pc fr lo : Nat} {own : String} {L : List (Nat × Value)} {S : List Value} {M : zM} {f : Fin 4} {i : Nat} {x : Int64} (L2 : List (Nat × Value)) (Z : zC E cc nL own fr lo) (hn : i + 1 < nL) (hL : (i, Value.long x) :: L.filter (fun q => !(q.1 == i) && (!(q.1 == i + 1) && !(q.1 + 1 == i && q.2.category == 2))) = L2) (hi : (f : Nat) = i) (hd : decode cc pc = .ok (.lstore_n f, 1)) (k : VV E nL (pc + 1) L2 S M) : VV E nL pc L (.long x :: S) M := fun H locs ls hP hS hl => lv_lstore_n Z.1 Z.2.1 hd hi hl hn (zL_f2 (E := E) hL) (fun ls2 hl2 => k H locs ls2 hP hS hl2)
theorem V_lstore {E : zEv} {cc : ByteArray} {nL pc fr lo : Nat} {own : String} {L : List (Nat × Value)} {S : List Value} {M : zM} {i : Nat} {x : Int64} (L2 : List (Nat × Value)) (Z : zC E cc nL own fr lo) (hn : i + 1 < nL) (hL : (i, Value.long x) :: L.filter (fun q => !(q.1 == i) && (!(q.1 == i + 1) && !(q.1 + 1 == i && q.2.category == 2))) = L2) (hd : decode cc pc = .ok (.lstore i, 2)) (k : VV E nL (pc + 2) L2 S M) : VV E nL pc L (.long x :: S) M := fun H locs ls hP hS hl => lv_lstore Z.1 Z.2.1 hd hl hn (zL_f2 (E := E) hL) (fun ls2 hl2 => k H locs ls2 hP hS hl2)
theorem V_iinc {E : zEv} {cc : ByteArray} {nL pc fr lo : Nat} {own : String} {L : List (Nat × Value)} {S : List Value} {M : zM} {i : Nat} {n : Int} {x : Int32} (q : Nat) (v : Int32) (L2 : List (Nat × Value)) (Z : zC E cc nL own fr lo) (hn : i < nL) (hq : L[q]? = some (i, .int x)) (hv : x + Int32.ofInt n = v) (hL : (i, Value.int v) :: L.filter (fun q => !(q.1 == i) && !(q.1 + 1 == i && q.2.category == 2)) = L2) (hd : decode cc pc = .ok (.iinc i n, 3)) (k : VV E nL (pc + 3) L2 S M) : VV E nL pc L S M := fun H locs ls hP hS hl => lv_iinc (k := q) Z.1 Z.2.1 hd hl (by unfold zL; rw [List.getElem?_map, hq]; rfl) hv hn (zL_f1 (E := E) hL) (fun ls2 hl2 => k H locs ls2 hP hS hl2)
theorem V_dup {E : zEv} {cc : ByteArray} {nL pc fr lo : Nat} {own : String} {L : List (Nat × Value)} {S : List Value} {M : zM} {v : Value} (hc : v.category = 1) (Z : zC E cc nL own fr lo) (hd : decode cc pc = .ok (.dup, 1)) (k : VV E nL (pc + 1) L (v :: v :: S) M) : VV E nL pc L (v :: S) M := fun H locs ls hP hS hl => lv_dup Z.1 Z.2.1 hd ((cv_cat _ _).trans hc) (k H locs ls hP hS hl)
theorem V_pop {E : zEv} {cc : ByteArray} {nL pc fr lo : Nat} {own : String} {L : List (Nat × Value)} {S : List Value} {M : zM} {v : Value} (hc : v.category = 1) (Z : zC E cc nL own fr lo) (hd : decode cc pc = .ok (.pop, 1)) (k : VV E nL (pc + 1) L (S) M) : VV E nL pc L (v :: S) M := fun H locs ls hP hS hl => lv_pop Z.1 Z.2.1 hd ((cv_cat _ _).trans hc) (k H locs ls hP hS hl)
section ZD2
variable {p : Program} {l : Launch} {e : Env} {R : Room} {s : State} {m : MethodId} {args : Array Value} {below : List Frame} {meth : Method} {c : Code} {H : Heap} {locs : List Loc} {cells slots : Nat} {Q : State → Prop} {cc : ByteArray} {pc : Nat} {ls : Array Slot} {rest : List Value}
theorem z_dup2 (hexec : p.tables.exec = Jvm.exec) (hb : c.code = cc) {va vb : Value} (hdg : decode cc pc = .ok (.dup2, 1)) (hva : va.category = 1) (hvb : vb.category = 1)
    (k : W p l e R s m args below meth c H locs cells slots Q (F0 m (pc + 1) ls (va :: vb :: va :: vb :: rest))) : W p l e R s m args below meth c H locs cells slots Q (F0 m pc ls (va :: vb :: rest)) := by
  intro T hT X
  obtain ⟨t, a, b⟩ := k T hT X
  refine ⟨t, ?_, b⟩
  jvm_step X.here [X.here.top, hexec, hb, hdg, hva, hvb]
  exact a
end ZD2
theorem V_dup2 {E : zEv} {cc : ByteArray} {nL pc fr lo : Nat} {own : String} {L : List (Nat × Value)} {S : List Value} {M : zM} {v w : Value} (hc : v.category = 1) (hc2 : w.category = 1) (Z : zC E cc nL own fr lo) (hd : decode cc pc = .ok (.dup2, 1)) (k : VV E nL (pc + 1) L (v :: w :: v :: w :: S) M) : VV E nL pc L (v :: w :: S) M := fun H locs ls hP hS hl => z_dup2 Z.1 Z.2.1 hd ((cv_cat _ _).trans hc) ((cv_cat _ _).trans hc2) (k H locs ls hP hS hl)
theorem V_goto {E : zEv} {cc : ByteArray} {nL pc fr lo : Nat} {own : String} {L : List (Nat × Value)} {S : List Value} {M : zM} {off : Int} (tgt : Nat) (Z : zC E cc nL own fr lo) (ht : (pc : Int) + off = (tgt : Int)) (hd : decode cc pc = .ok (.goto off, 3)) (k : VV E nL tgt L S M) : VV E nL pc L S M := fun H locs ls hP hS hl => lv_goto Z.1 Z.2.1 hd ht (k H locs ls hP hS hl)
theorem V_if_eq {E : zEv} {cc : ByteArray} {nL pc fr lo : Nat} {own : String} {L : List (Nat × Value)} {S : List Value} {M : zM} {x : Int32} {off : Int} (tgt : Nat) (Z : zC E cc nL own fr lo) (ht : (pc : Int) + off = (tgt : Int)) (hd : decode cc pc = .ok (.ifCond .eq off, 3)) (kt : x = 0 → VV E nL tgt L S M) (kf : ¬ x = 0 → VV E nL (pc + 3) L S M) : VV E nL pc L (.int x :: S) M := fun H locs ls hP hS hl => lv_if_eq Z.1 Z.2.1 hd ht (fun h => kt h H locs ls hP hS hl) (fun h => kf h H locs ls hP hS hl)
theorem V_if_ne {E : zEv} {cc : ByteArray} {nL pc fr lo : Nat} {own : String} {L : List (Nat × Value)} {S : List Value} {M : zM} {x : Int32} {off : Int} (tgt : Nat) (Z : zC E cc nL own fr lo) (ht : (pc : Int) + off = (tgt : Int)) (hd : decode cc pc = .ok (.ifCond .ne off, 3)) (kt : ¬ x = 0 → VV E nL tgt L S M) (kf : x = 0 → VV E nL (pc + 3) L S M) : VV E nL pc L (.int x :: S) M := fun H locs ls hP hS hl => lv_if_ne Z.1 Z.2.1 hd ht (fun h => kt h H locs ls hP hS hl) (fun h => kf h H locs ls hP hS hl)
theorem V_if_lt {E : zEv} {cc : ByteArray} {nL pc fr lo : Nat} {own : String} {L : List (Nat × Value)} {S : List Value} {M : zM} {x : Int32} {off : Int} (tgt : Nat) (Z : zC E cc nL own fr lo) (ht : (pc : Int) + off = (tgt : Int)) (hd : decode cc pc = .ok (.ifCond .lt off, 3)) (kt : x < 0 → VV E nL tgt L S M) (kf : ¬ x < 0 → VV E nL (pc + 3) L S M) : VV E nL pc L (.int x :: S) M := fun H locs ls hP hS hl => lv_if_lt Z.1 Z.2.1 hd ht (fun h => kt h H locs ls hP hS hl) (fun h => kf h H locs ls hP hS hl)
theorem V_if_ge {E : zEv} {cc : ByteArray} {nL pc fr lo : Nat} {own : String} {L : List (Nat × Value)} {S : List Value} {M : zM} {x : Int32} {off : Int} (tgt : Nat) (Z : zC E cc nL own fr lo) (ht : (pc : Int) + off = (tgt : Int)) (hd : decode cc pc = .ok (.ifCond .ge off, 3)) (kt : 0 ≤ x → VV E nL tgt L S M) (kf : ¬ 0 ≤ x → VV E nL (pc + 3) L S M) : VV E nL pc L (.int x :: S) M := fun H locs ls hP hS hl => lv_if_ge Z.1 Z.2.1 hd ht (fun h => kt h H locs ls hP hS hl) (fun h => kf h H locs ls hP hS hl)
theorem V_if_gt {E : zEv} {cc : ByteArray} {nL pc fr lo : Nat} {own : String} {L : List (Nat × Value)} {S : List Value} {M : zM} {x : Int32} {off : Int} (tgt : Nat) (Z : zC E cc nL own fr lo) (ht : (pc : Int) + off = (tgt : Int)) (hd : decode cc pc = .ok (.ifCond .gt off, 3)) (kt : 0 < x → VV E nL tgt L S M) (kf : ¬ 0 < x → VV E nL (pc + 3) L S M) : VV E nL pc L (.int x :: S) M := fun H locs ls hP hS hl => lv_if_gt Z.1 Z.2.1 hd ht (fun h => kt h H locs ls hP hS hl) (fun h => kf h H locs ls hP hS hl)
theorem V_if_le {E : zEv} {cc : ByteArray} {nL pc fr lo : Nat} {own : String} {L : List (Nat × Value)} {S : List Value} {M : zM} {x : Int32} {off : Int} (tgt : Nat) (Z : zC E cc nL own fr lo) (ht : (pc : Int) + off = (tgt : Int)) (hd : decode cc pc = .ok (.ifCond .le off, 3)) (kt : x ≤ 0 → VV E nL tgt L S M) (kf : ¬ x ≤ 0 → VV E nL (pc + 3) L S M) : VV E nL pc L (.int x :: S) M := fun H locs ls hP hS hl => lv_if_le Z.1 Z.2.1 hd ht (fun h => kt h H locs ls hP hS hl) (fun h => kf h H locs ls hP hS hl)
theorem V_icmp_eq {E : zEv} {cc : ByteArray} {nL pc fr lo : Nat} {own : String} {L : List (Nat × Value)} {S : List Value} {M : zM} {x y : Int32} {off : Int} (tgt : Nat) (Z : zC E cc nL own fr lo) (ht : (pc : Int) + off = (tgt : Int)) (hd : decode cc pc = .ok (.if_icmp .eq off, 3)) (kt : x = y → VV E nL tgt L S M) (kf : ¬ x = y → VV E nL (pc + 3) L S M) : VV E nL pc L (.int y :: .int x :: S) M := fun H locs ls hP hS hl => lv_icmp_eq Z.1 Z.2.1 hd ht (fun h => kt h H locs ls hP hS hl) (fun h => kf h H locs ls hP hS hl)
theorem V_icmp_ne {E : zEv} {cc : ByteArray} {nL pc fr lo : Nat} {own : String} {L : List (Nat × Value)} {S : List Value} {M : zM} {x y : Int32} {off : Int} (tgt : Nat) (Z : zC E cc nL own fr lo) (ht : (pc : Int) + off = (tgt : Int)) (hd : decode cc pc = .ok (.if_icmp .ne off, 3)) (kt : ¬ x = y → VV E nL tgt L S M) (kf : x = y → VV E nL (pc + 3) L S M) : VV E nL pc L (.int y :: .int x :: S) M := fun H locs ls hP hS hl => lv_icmp_ne Z.1 Z.2.1 hd ht (fun h => kt h H locs ls hP hS hl) (fun h => kf h H locs ls hP hS hl)
theorem V_icmp_lt {E : zEv} {cc : ByteArray} {nL pc fr lo : Nat} {own : String} {L : List (Nat × Value)} {S : List Value} {M : zM} {x y : Int32} {off : Int} (tgt : Nat) (Z : zC E cc nL own fr lo) (ht : (pc : Int) + off = (tgt : Int)) (hd : decode cc pc = .ok (.if_icmp .lt off, 3)) (kt : x < y → VV E nL tgt L S M) (kf : ¬ x < y → VV E nL (pc + 3) L S M) : VV E nL pc L (.int y :: .int x :: S) M := fun H locs ls hP hS hl => lv_icmp_lt Z.1 Z.2.1 hd ht (fun h => kt h H locs ls hP hS hl) (fun h => kf h H locs ls hP hS hl)
theorem V_icmp_ge {E : zEv} {cc : ByteArray} {nL pc fr lo : Nat} {own : String} {L : List (Nat × Value)} {S : List Value} {M : zM} {x y : Int32} {off : Int} (tgt : Nat) (Z : zC E cc nL own fr lo) (ht : (pc : Int) + off = (tgt : Int)) (hd : decode cc pc = .ok (.if_icmp .ge off, 3)) (kt : y ≤ x → VV E nL tgt L S M) (kf : ¬ y ≤ x → VV E nL (pc + 3) L S M) : VV E nL pc L (.int y :: .int x :: S) M := fun H locs ls hP hS hl => lv_icmp_ge Z.1 Z.2.1 hd ht (fun h => kt h H locs ls hP hS hl) (fun h => kf h H locs ls hP hS hl)
theorem V_icmp_gt {E : zEv} {cc : ByteArray} {nL pc fr lo : Nat} {own : String} {L : List (Nat × Value)} {S : List Value} {M : zM} {x y : Int32} {off : Int} (tgt : Nat) (Z : zC E cc nL own fr lo) (ht : (pc : Int) + off = (tgt : Int)) (hd : decode cc pc = .ok (.if_icmp .gt off, 3)) (kt : y < x → VV E nL tgt L S M) (kf : ¬ y < x → VV E nL (pc + 3) L S M) : VV E nL pc L (.int y :: .int x :: S) M := fun H locs ls hP hS hl => lv_icmp_gt Z.1 Z.2.1 hd ht (fun h => kt h H locs ls hP hS hl) (fun h => kf h H locs ls hP hS hl)
theorem V_icmp_le {E : zEv} {cc : ByteArray} {nL pc fr lo : Nat} {own : String} {L : List (Nat × Value)} {S : List Value} {M : zM} {x y : Int32} {off : Int} (tgt : Nat) (Z : zC E cc nL own fr lo) (ht : (pc : Int) + off = (tgt : Int)) (hd : decode cc pc = .ok (.if_icmp .le off, 3)) (kt : x ≤ y → VV E nL tgt L S M) (kf : ¬ x ≤ y → VV E nL (pc + 3) L S M) : VV E nL pc L (.int y :: .int x :: S) M := fun H locs ls hP hS hl => lv_icmp_le Z.1 Z.2.1 hd ht (fun h => kt h H locs ls hP hS hl) (fun h => kf h H locs ls hP hS hl)
theorem V_tabIn {E : zEv} {cc : ByteArray} {nL pc fr lo : Nat} {own : String} {L : List (Nat × Value)} {S : List Value} {M : zM} {x : Int32} {dflt lo2 hi off : Int} {offs : Array Int} {len : Nat} (tgt : Nat) (Z : zC E cc nL own fr lo) (hd : decode cc pc = .ok (.tableswitch dflt lo2 hi offs, len)) (h : (decide (¬ x.toInt < lo2) && decide (¬ hi < x.toInt) && (offs[(x.toInt - lo2).toNat]? == some off) && decide ((pc : Int) + off = (tgt : Int))) = true) (k : VV E nL tgt L S M) : VV E nL pc L (.int x :: S) M := by
  simp only [Bool.and_eq_true, decide_eq_true_eq, beq_iff_eq] at h
  exact fun H locs ls hP hS hl => lv_tableIn Z.1 Z.2.1 hd h.1.1.1 h.1.1.2 h.1.2 h.2 (k H locs ls hP hS hl)
theorem V_tabOut {E : zEv} {cc : ByteArray} {nL pc fr lo : Nat} {own : String} {L : List (Nat × Value)} {S : List Value} {M : zM} {x : Int32} {dflt lo2 hi : Int} {offs : Array Int} {len : Nat} (tgt : Nat) (Z : zC E cc nL own fr lo) (hd : decode cc pc = .ok (.tableswitch dflt lo2 hi offs, len)) (h : x.toInt < lo2 ∨ hi < x.toInt) (ht : (pc : Int) + dflt = (tgt : Int)) (k : VV E nL tgt L S M) : VV E nL pc L (.int x :: S) M := fun H locs ls hP hS hl => lv_tableOut Z.1 Z.2.1 hd h ht (k H locs ls hP hS hl)
theorem V_look {E : zEv} {cc : ByteArray} {nL pc fr lo : Nat} {own : String} {L : List (Nat × Value)} {S : List Value} {M : zM} {x : Int32} {dflt off : Int} {ps : Array (Int × Int)} {len : Nat} (tgt : Nat) (Z : zC E cc nL own fr lo) (hd : decode cc pc = .ok (.lookupswitch dflt ps, len)) (hp : (ps.toList.zip (ps.toList.drop 1)).all (fun (a, next) => a.1 < next.1) = true) (ho : Op.lookupswitch.offset ps.toList dflt x.toInt = off) (ht : (pc : Int) + off = (tgt : Int)) (k : VV E nL tgt L S M) : VV E nL pc L (.int x :: S) M := fun H locs ls hP hS hl => lv_lookup Z.1 Z.2.1 hd hp ho ht (k H locs ls hP hS hl)
end
section
/-! THE ROWS OF THE HEAP: fields, arrays, calls, returns. -/
/-- a class of the worlds: its place, its fields' words, their types, that their names are apart -/
def zCls (ci : Nat) (C : String) (T : u_T) (N : Nat) (ty : Nat → FieldType) : Prop := zCl[ci]? = some (C, T, N) ∧ (∀ w ∈ u_ws C T N, w ∈ zTB) ∧ (∀ k, k < N → parseFieldDescriptor (T k).2.2.1 = some (ty k)) ∧ ∀ a, a < N → ∀ b, b < N → a ≠ b → (T a).2.1 ≠ (T b).2.1
theorem zc0 : zCls 0 RX0 TX0 15 tyX0 := ⟨rfl, by decide +kernel, tyX0_ok, nmX0⟩
theorem zc1 : zCls 1 RX2 TX2 5 tyX2 := ⟨rfl, by decide +kernel, tyX2_ok, nmX2⟩
theorem zc2 : zCls 2 RX3 TX3 3 tyX3 := ⟨rfl, by decide +kernel, tyX3_ok, nmX3⟩
theorem zc3 : zCls 3 RX4 TX4 2 tyX4 := ⟨rfl, by decide +kernel, tyX4_ok, nmX4⟩
theorem zc4 : zCls 4 RX5 TX5 8 tyX5 := ⟨rfl, by decide +kernel, tyX5_ok, nmX5⟩
theorem zc5 : zCls 5 RX6 TX6 22 tyX6 := ⟨rfl, by decide +kernel, tyX6_ok, nmX6⟩
theorem zE_obj {G : zG} {ad : Nat → Nat} {M : zM} {k ci : Nat} {fl : List (Option Nat)} (hs : sh k = .inr (.inl (ci, fl))) : zE G ad M k = .inr (ci, zfl ad M k 0 fl) := by unfold zE; rw [hs]
theorem zE_arr {G : zG} {ad : Nat → Nat} {M : zM} {k n : Nat} (hs : sh k = .inl n) : zE G ad M k = .inl (G.2.1, n, .inl (M k)) := by unfold zE; rw [hs]
theorem zE_ref {G : zG} {ad : Nat → Nat} {M : zM} {k : Nat} {rs : Nat × List Nat} (hs : sh k = .inr (.inr rs)) : zE G ad M k = .inl (G.2.2 rs.1, rs.2.length, .inr (.inr (.inr (.inr fun j => (rs.2[j]?).map ad)))) := by unfold zE; rw [hs]
section ZH
variable {E : zEv} {cc : ByteArray} {nL pc fr lo : Nat} {own : String} {L : List (Nat × Value)} {S : List Value} {M : zM}
/-- a field that is read: its value as the world has it -/
theorem V_get {k j ci N index : Nat} {fl : List (Option Nat)} {C n d : String} {T : u_T} {ty : Nat → FieldType} {o : Option Nat} {v : Value} (Z : zC E cc nL own fr lo) (hc : zCls ci C T N ty) (hk : k < NC) (hs : sh k = .inr (.inl (ci, fl))) (hj : j < N) (hf : fl[j]? = some o) (hT : (T j).1 = C ∧ (T j).2.1 = n ∧ (T j).2.2.1 = d) (hw : Cond.fieldLink own index C n d ∈ zTB) (hv : cv (ead E) v = zfld (ead E) M k j o) (hd : decode cc pc = .ok (.getfield index, 3))
    (kk : VV E nL (pc + 3) L (v :: S) M) : VV E nL pc L (.ref k :: S) M := fun H locs ls hP hS hl => by
  obtain ⟨hx, hb, -, hown, hts, hK, -⟩ := Z
  obtain ⟨h1, rfl, rfl⟩ := hT
  have hz := zW_at (G := eG E) (ad := ead E) (M := M) hk
  rw [zE_obj hs] at hz
  refine va_get hx hb hts hc.2.1 hown hK hP k hz hc.1 j hj (hts _ hw) (fun x hx => by rw [← h1]; exact hx) (v := cv (ead E) v) ?_ hd (kk H locs ls hP hS hl)
  rw [zfl_at, hf, Nat.zero_add, hv]
  rfl
theorem V_getI {k ci N index : Nat} (j : Nat) {fl : List (Option Nat)} {C n d : String} {T : u_T} {ty : Nat → FieldType} (Z : zC E cc nL own fr lo) (hc : zCls ci C T N ty) (hk : k < NC) (hs : sh k = .inr (.inl (ci, fl))) (hj : j < N) (hf : fl[j]? = some none) (hT : (T j).1 = C ∧ (T j).2.1 = n ∧ (T j).2.2.1 = d) (hw : Cond.fieldLink own index C n d ∈ zTB) (hd : decode cc pc = .ok (.getfield index, 3))
    (kk : VV E nL (pc + 3) L (.int (M k j) :: S) M) : VV E nL pc L (.ref k :: S) M := V_get Z hc hk hs hj hf hT hw rfl hd kk
theorem V_getR {k ci N index : Nat} (j r : Nat) {fl : List (Option Nat)} {C n d : String} {T : u_T} {ty : Nat → FieldType} (Z : zC E cc nL own fr lo) (hc : zCls ci C T N ty) (hk : k < NC) (hs : sh k = .inr (.inl (ci, fl))) (hj : j < N) (hf : fl[j]? = some (some r)) (hr : r ≠ 900) (hT : (T j).1 = C ∧ (T j).2.1 = n ∧ (T j).2.2.1 = d) (hw : Cond.fieldLink own index C n d ∈ zTB) (hd : decode cc pc = .ok (.getfield index, 3))
    (kk : VV E nL (pc + 3) L (.ref r :: S) M) : VV E nL pc L (.ref k :: S) M := V_get Z hc hk hs hj hf hT hw (by simp [cv, zfld, hr]) hd kk
/-- the reader's tape, once it is there -/
theorem V_getD {k ci N index : Nat} (j : Nat) {fl : List (Option Nat)} {C n d : String} {T : u_T} {ty : Nat → FieldType} (Z : zC E cc nL own fr lo) (hc : zCls ci C T N ty) (hk : k < NC) (hs : sh k = .inr (.inl (ci, fl))) (hj : j < N) (hf : fl[j]? = some (some 900)) (h0 : ¬ M k j = 0) (hT : (T j).1 = C ∧ (T j).2.1 = n ∧ (T j).2.2.1 = d) (hw : Cond.fieldLink own index C n d ∈ zTB) (hd : decode cc pc = .ok (.getfield index, 3))
    (kk : VV E nL (pc + 3) L (.ref 34 :: S) M) : VV E nL pc L (.ref k :: S) M := V_get Z hc hk hs hj hf hT hw (by simp [cv, zfld, h0]) hd kk
/-- a field that is written -/
theorem V_put {k ci N index : Nat} (j : Nat) {x : Int32} {fl : List (Option Nat)} {C n d : String} {T : u_T} {ty : Nat → FieldType} {v : Value} (Z : zC E cc nL own fr lo) (hc : zCls ci C T N ty) (hk : k < NC) (hs : sh k = .inr (.inl (ci, fl))) (hj : j < N) (hjl : j < fl.length) (hset : (zfl (ead E) M k 0 fl).set j (cv (ead E) v) = zfl (ead E) (zU M k j x) k 0 fl) (hT : (T j).1 = C ∧ (T j).2.1 = n ∧ (T j).2.2.1 = d) (hfin : (T j).2.2.2 = false) (hn : narrow (ty j) (cv (ead E) v) = cv (ead E) v) (hfit : fits (ty j) (cv (ead E) v) = true) (hw : Cond.fieldLink own index C n d ∈ zTB) (hd : decode cc pc = .ok (.putfield index, 3))
    (kk : VV E nL (pc + 3) L S (zU M k j x)) : VV E nL pc L (v :: .ref k :: S) M := fun H locs ls hP hS hl => by
  obtain ⟨hx, hb, -, hown, hts, hK, hinj, -⟩ := Z
  obtain ⟨h1, rfl, rfl⟩ := hT
  have hz := zW_at (G := eG E) (ad := ead E) (M := M) hk
  rw [zE_obj hs] at hz
  refine va_put hx hb hts hc.2.1 ty hc.2.2.1 hc.2.2.2 hown hK hP (zD (sz := (es E).heap.size) hinj) hS k hz hc.1 j hj (hts _ hw) (fun x hx => by rw [← h1]; exact hx) hfin (ty := ty j) (v := cv (ead E) v) (hc.2.2.1 j hj) hn hfit (by rw [zfl_len]; exact hjl) hd (fun H1 locs1 hP1 hD1 hS1 => ?_)
  rw [hset, zW_set (M' := zU M k j x) hk (zE_obj hs).symm (fun q hq => zU_off hq)] at hP1
  exact kk H1 locs1 ls hP1 hS1 hl
theorem V_putI {k ci N index : Nat} (j : Nat) {x : Int32} {fl : List (Option Nat)} {C n d : String} {T : u_T} {ty : Nat → FieldType} (Z : zC E cc nL own fr lo) (hc : zCls ci C T N ty) (hk : k < NC) (hs : sh k = .inr (.inl (ci, fl))) (hj : j < N) (hf : fl[j]? = some none) (hT : (T j).1 = C ∧ (T j).2.1 = n ∧ (T j).2.2.1 = d) (hfin : (T j).2.2.2 = false) (hty : ty j = .int) (hw : Cond.fieldLink own index C n d ∈ zTB) (hd : decode cc pc = .ok (.putfield index, 3))
    (kk : VV E nL (pc + 3) L S (zU M k j x)) : VV E nL pc L (.int x :: .ref k :: S) M := V_put j Z hc hk hs hj (List.getElem?_eq_some_iff.mp hf).1 (zfl_set hf) hT hfin (by rw [hty]; rfl) (by rw [hty]; rfl) hw hd kk
theorem V_putZ {k ci N index : Nat} (j : Nat) {x : Int32} {fl : List (Option Nat)} {C n d : String} {T : u_T} {ty : Nat → FieldType} (Z : zC E cc nL own fr lo) (hc : zCls ci C T N ty) (hk : k < NC) (hs : sh k = .inr (.inl (ci, fl))) (hj : j < N) (hf : fl[j]? = some none) (hT : (T j).1 = C ∧ (T j).2.1 = n ∧ (T j).2.2.1 = d) (hfin : (T j).2.2.2 = false) (hty : ty j = .boolean) (hb : zbo x = some x) (hw : Cond.fieldLink own index C n d ∈ zTB) (hd : decode cc pc = .ok (.putfield index, 3))
    (kk : VV E nL (pc + 3) L S (zU M k j x)) : VV E nL pc L (.int x :: .ref k :: S) M := by
  have h01 : x = 0 ∨ x = 1 := by
    unfold zbo at hb
    split at hb
    · assumption
    · cases hb
  exact V_put j Z hc hk hs hj (List.getElem?_eq_some_iff.mp hf).1 (zfl_set hf) hT hfin (by rw [hty]; rcases h01 with rfl | rfl <;> rfl) (by rw [hty]; rcases h01 with rfl | rfl <;> rfl) hw hd kk
theorem V_putD {k ci N index : Nat} (j : Nat) {fl : List (Option Nat)} {C n d : String} {T : u_T} {ty : Nat → FieldType} (Z : zC E cc nL own fr lo) (hc : zCls ci C T N ty) (hk : k < NC) (hs : sh k = .inr (.inl (ci, fl))) (hj : j < N) (hf : fl[j]? = some (some 900)) (hT : (T j).1 = C ∧ (T j).2.1 = n ∧ (T j).2.2.1 = d) (hfin : (T j).2.2.2 = false) (hty : ty j = .object "NameRail$Tape") (hw : Cond.fieldLink own index C n d ∈ zTB) (hd : decode cc pc = .ok (.putfield index, 3))
    (kk : VV E nL (pc + 3) L S (zU M k j 1)) : VV E nL pc L (.ref 34 :: .ref k :: S) M := V_put j Z hc hk hs hj (List.getElem?_eq_some_iff.mp hf).1 (zfl_setR hf) hT hfin (by rw [hty]; rfl) (by rw [hty]; rfl) hw hd kk
theorem zrd_spec {k : Nat} {i v : Int32} (h : zrd M k i = some v) : ∃ n, sh k = .inl n ∧ vp_in i n ∧ v = M k i.toNatClampNeg := by
  unfold zrd at h
  split at h
  · rename_i n hn
    split at h
    · cases h
    · cases h; exact ⟨n, hn, by assumption, rfl⟩
  · cases h
theorem zwr_spec {M' : zM} {k : Nat} {i v : Int32} (h : zwr M k i v = some M') : ∃ n, sh k = .inl n ∧ vp_in i n ∧ M' = zU M k i.toNatClampNeg v := by
  unfold zwr at h
  split at h
  · rename_i n hn
    split at h
    · cases h
    · cases h; exact ⟨n, hn, by assumption, rfl⟩
  · cases h
theorem zrr_spec {k r : Nat} {i : Int32} (h : zrr k i = some r) : ∃ rs, sh k = .inr (.inr rs) ∧ vp_in i rs.2.length ∧ rs.2[i.toNatClampNeg]? = some r := by
  unfold zrr at h
  split at h
  · rename_i rs hn
    split at h
    · cases h
    · exact ⟨rs, hn, by assumption, h⟩
  · cases h
theorem sh_lt_arr {k n : Nat} (h : sh k = .inl n) (hn : 0 < n) : k < NC := by
  refine Nat.not_le.mp fun hk => ?_
  have : sh k = .inl 0 := by
    unfold sh
    split <;> first | (exfalso; revert hk; decide) | rfl
  rw [this] at h
  cases h
  exact absurd hn (Nat.lt_irrefl 0)
theorem vp_in_pos {i : Int32} {n : Nat} (h : vp_in i n) : 0 < n := by
  rcases Nat.eq_zero_or_pos n with rfl | h0
  · exact absurd (Or.inr (Nat.zero_le _)) h
  · exact h0
theorem V_iald {k : Nat} {i v : Int32} (Z : zC E cc nL own fr lo) (hv : zrd M k i = some v) (hd : decode cc pc = .ok (.iaload, 1)) (kk : VV E nL (pc + 1) L (.int v :: S) M) : VV E nL pc L (.int i :: .ref k :: S) M := fun H locs ls hP hS hl => by
  obtain ⟨n, hs, hin, rfl⟩ := zrd_spec hv
  obtain ⟨hx, hb, -, hown, hts, hK, hinj, -⟩ := Z
  have hz := zW_at (G := eG E) (ad := ead E) (M := M) (sh_lt_arr hs (vp_in_pos hin))
  rw [zE_arr hs] at hz
  exact va_iald hx hb hK hP k 0 hz rfl hin hd (kk H locs ls hP hS hl)
theorem V_iast {M' : zM} {k : Nat} {i x : Int32} (Z : zC E cc nL own fr lo) (hv : zwr M k i x = some M') (hd : decode cc pc = .ok (.iastore, 1)) (kk : VV E nL (pc + 1) L S M') : VV E nL pc L (.int x :: .int i :: .ref k :: S) M := fun H locs ls hP hS hl => by
  obtain ⟨n, hs, hin, rfl⟩ := zwr_spec hv
  obtain ⟨hx, hb, -, hown, hts, hK, hinj, -⟩ := Z
  have hk := sh_lt_arr hs (vp_in_pos hin)
  have hz := zW_at (G := eG E) (ad := ead E) (M := M) hk
  rw [zE_arr hs] at hz
  refine va_iast hx hb hK hP (zD (sz := (es E).heap.size) hinj) hS k 0 hz rfl hin hd (fun H1 locs1 hP1 hD1 hS1 => ?_)
  rw [zW_set (M' := zU M k i.toNatClampNeg x) hk (by rw [zE_arr hs, zU_row]) (fun q hq => zU_off hq)] at hP1
  exact kk H1 locs1 ls hP1 hS1 hl
theorem V_aald {k r : Nat} {i : Int32} {C : String} (t : Nat) (Z : zC E cc nL own fr lo) (hv : zrr k i = some r) (hk : k < NC) (hT : ∀ G, (zTy G)[t]? = some (G.2.2 t, .object C)) (ht : ∀ rs, sh k = .inr (.inr rs) → rs.1 = t) (hd : decode cc pc = .ok (.aaload, 1)) (kk : VV E nL (pc + 1) L (.ref r :: S) M) : VV E nL pc L (.int i :: .ref k :: S) M := fun H locs ls hP hS hl => by
  obtain ⟨rs, hs, hin, hr⟩ := zrr_spec hv
  obtain ⟨hx, hb, -, hown, hts, hK, hinj, -⟩ := Z
  have hz := zW_at (G := eG E) (ad := ead E) (M := M) hk
  rw [zE_ref hs, ht rs hs] at hz
  refine va_aldq hx hb hK hP k t hz (hT (eG E)) hin hd ?_
  simp only [hr, Option.map_some]
  exact kk H locs ls hP hS hl
theorem V_alenR {k : Nat} {rs : Nat × List Nat} {C : String} (t : Nat) (v : Int32) (Z : zC E cc nL own fr lo) (hk : k < NC) (hs : sh k = .inr (.inr rs)) (hT : ∀ G, (zTy G)[t]? = some (G.2.2 t, .object C)) (ht : rs.1 = t) (hv : Int32.ofNat rs.2.length = v) (hd : decode cc pc = .ok (.arraylength, 1)) (kk : VV E nL (pc + 1) L (.int v :: S) M) : VV E nL pc L (.ref k :: S) M := fun H locs ls hP hS hl => by
  obtain ⟨hx, hb, -, hown, hts, hK, hinj, -⟩ := Z
  have hz := zW_at (G := eG E) (ad := ead E) (M := M) hk
  rw [zE_ref hs, ht] at hz
  exact va_alen hx hb hK hP k t hz (hT (eG E)) hv hd (kk H locs ls hP hS hl)
end ZH
end
section
/-! CALLS AND RETURNS. -/
/-- how a method ends: with v, and the world at M' -/
def zQc (G : zG) (ad : Nat → Nat) (sz : Nat) (v : Option Value) (M' : zM) : Array Value → State → Outcome → State → Prop := fun _ st oc t => (oc = .returned v ∧ va_P G.1 zCl (zW G ad M') t.heap) ∧ va_F (zA ad sz) st t
/-- how it starts -/
def zPc (G : zG) (ad : Nat → Nat) (sz : Nat) (av : List Value) (M : zM) : Array Value → State → Prop := fun a U => a = (av.map (cv ad)).toArray ∧ U.heap.size = sz ∧ va_P G.1 zCl (zW G ad M) U.heap ∧ va_K G.1 zCl (zTy G) U ∧ zInj ad ∧ zExt ad (zA ad sz) U U.heap
/-- THE CONTRACT: called with av at memory M the method y answers v and leaves M' (fr frames, lo words of locals are enough) -/
def zRuns (y : MethodName) (bytes : ByteArray) (mL : Nat) (ret : Option FieldType) (fr lo : Nat) (av : List Value) (M : zM) (v : Option Value) (M' : zM) : Prop :=
  ∀ (l : Launch) (G : zG) (ad : Nat → Nat) (sz : Nat), Met l y (.code y bytes mL ret :: zTB) ({ frames := fr, cells := 0, slots := 0, locals := lo } : Room) (zPc G ad sz av M) (zQc G ad sz (v.map (cv ad)) M') 0 0 (zA ad sz)
theorem zPc_blind {G : zG} {ad : Nat → Nat} {sz : Nat} {av : List Value} {M : zM} : FrameBlind (zPc G ad sz av M) := fun a U g mk q => ⟨q.1, q.2.1, q.2.2.1, va_K.moved (u := U) (U := U.calling g mk a) (Vm.Alike.refl U.vm) q.2.2.2.1, q.2.2.2.2.1, zExt_same (u := U) (U := U.calling g mk a) rfl q.2.2.2.2.2⟩
/-- how a run ends well -/
def zEnd (E : zEv) (ret : Option FieldType) (v : Option Value) (M' : zM) : Prop :=
  (eme E).sig.returnType = ret ∧ (eme E).locks = false ∧ eQ E = MQ (ebl E) (zQc (eG E) (ead E) (es E).heap.size (v.map (cv (ead E))) M') (ea E) (es E) (ecl E) (esl E) (eA E)
theorem zL_args (ad : Nat → Nat) : ∀ (i : Nat) (av : List Value), lv_args i (av.map (cv ad)) = (lv_args i av).map fun q => (q.1, cv ad q.2) := by
  intro i av
  induction av generalizing i with
  | nil => rfl
  | cons v vs ih => simp only [List.map_cons, lv_args, cv_cat, ih]
theorem zSl_len (ad : Nat → Nat) (av : List Value) : (lg_sl (av.map (cv ad))).length = (lg_sl av).length := by
  induction av with
  | nil => rfl
  | cons v vs ih =>
    have h1 : lg_sl ((v :: vs).map (cv ad)) = (if (cv ad v).category = 2 then [Slot.val (cv ad v), .second] else [Slot.val (cv ad v)]) ++ lg_sl (vs.map (cv ad)) := rfl
    have h2 : lg_sl (v :: vs) = (if v.category = 2 then [Slot.val v, .second] else [Slot.val v]) ++ lg_sl vs := rfl
    rw [h1, h2, List.length_append, List.length_append, ih, cv_cat]
    split <;> rfl
theorem zRuns_of {y : MethodName} {bytes : ByteArray} {mL : Nat} {ret : Option FieldType} {fr lo : Nat} {av : List Value} {M : zM} {v : Option Value} {M' : zM} (hy : plainName y.cls = true) (hlen : (lg_sl av).length ≤ mL) (body : ∀ E : zEv, zC E bytes mL y.cls fr lo → zEnd E ret v M' → VV E mL 0 (lv_args 0 av) [] M) : zRuns y bytes mL ret fr lo av M v M' := by
  intro l G ad sz
  refine Met.ofW (cc := bytes) (maxL := mL) (ret := ret) hy rfl ?_
  intro p e s m args below meth c s₁ B hml hv
  obtain ⟨rfl, hsz, hP, hK, hinj, hX⟩ := hv
  have hts : ∀ w ∈ zTB, w.before ((av.map (cv ad)).toArray) s = true := fun w hw => atoms_spec (ws := .code y bytes mL ret :: zTB) B.pre w (List.mem_cons_of_mem _ hw)
  have hown : s.vm.findClass y.cls = some m.cls := findClass_of_methodNamed B.named
  subst hsz
  have hb := body (p, l, e, ({ frames := fr, cells := 0, slots := 0, locals := lo } : Room), s, m, (av.map (cv ad)).toArray, below, meth, c, MQ below (zQc G ad s.heap.size (v.map (cv ad)) M') (av.map (cv ad)).toArray s 0 0 (zA ad s.heap.size), G, ad, 0, 0)
    ⟨B.exec, B.bytes, hml, hown, hts, hK, hinj, hX, ⟨Nat.le_refl _, Nat.le_refl _⟩, Nat.le_refl _, Nat.le_refl _⟩ ⟨B.returns, B.notSynchronized, rfl⟩
  have hl := lv_entry (av.map (cv ad)) (n := mL) (by rw [zSl_len]; exact hlen)
  rw [lg_entry_eq]
  rw [zL_args] at hl
  exact hb s.heap [] _ hP va_S.rf hl
section ZR
variable {E : zEv} {cc : ByteArray} {nL pc fr lo : Nat} {own : String} {L : List (Nat × Value)} {S : List Value} {M : zM}
theorem V_iret {x : Int32} (Z : zC E cc nL own fr lo) (hE : zEnd E (some .int) (some (.int x)) M) (hd : decode cc pc = .ok (.ireturn, 1)) : VV E nL pc L [.int x] M := fun H locs ls hP hS hl => by
  obtain ⟨hr, hlk, hq⟩ := hE
  rw [hq]
  exact W.iret Z.1 Z.2.1 hr (fun t ht hW => ⟨⟨rfl, by rw [ht]; exact hP⟩, hS.F ht⟩) hS.2.2 hd (hlocks := hlk)
theorem V_zret {x : Int32} (Z : zC E cc nL own fr lo) (h : zbo x = some x) (hE : zEnd E (some .boolean) (some (.int x)) M) (hd : decode cc pc = .ok (.ireturn, 1)) : VV E nL pc L [.int x] M := fun H locs ls hP hS hl => by
  obtain ⟨hr, hlk, hq⟩ := hE
  have h01 : x = 0 ∨ x = 1 := by
    unfold zbo at h
    split at h
    · assumption
    · cases h
  rw [hq]
  exact W.zret Z.1 Z.2.1 hr (by rcases h01 with rfl | rfl <;> rfl) (fun t ht hW => ⟨⟨rfl, by rw [ht]; exact hP⟩, hS.F ht⟩) hS.2.2 hd (hlocks := hlk)
theorem V_lret {x : Int64} (Z : zC E cc nL own fr lo) (hE : zEnd E (some .long) (some (.long x)) M) (hd : decode cc pc = .ok (.lreturn, 1)) : VV E nL pc L [.long x] M := fun H locs ls hP hS hl => by
  obtain ⟨hr, hlk, hq⟩ := hE
  rw [hq]
  exact W.lret Z.1 Z.2.1 hr (fun t ht hW => ⟨⟨rfl, by rw [ht]; exact hP⟩, hS.F ht⟩) hS.2.2 hd (hlocks := hlk)
theorem V_vret (Z : zC E cc nL own fr lo) (hE : zEnd E none none M) (hd : decode cc pc = .ok (.return_, 1)) : VV E nL pc L [] M := fun H locs ls hP hS hl => by
  obtain ⟨hr, hlk, hq⟩ := hE
  rw [hq]
  exact W.vret Z.1 Z.2.1 hr (fun t ht hW => ⟨⟨rfl, by rw [ht]; exact hP⟩, hS.F ht⟩) hS.2.2 hd (hlocks := hlk)
end ZR
section ZCALL
variable {p : Program} {l : Launch} {e : Env} {R : Room} {s : State} {m : MethodId} {args : Array Value} {below : List Frame} {meth : Method} {c : Code} {H : Heap} {locs : List Loc} {cells slots : Nat} {Q : State → Prop}
variable {pc : Nat} {ls : Array Slot} {rest st0 : List Value} {a : Array Value} {A0 A1 : Nat → Prop} {H0 : Heap} {free : Addr → Prop}
theorem z_callg {v : Option Value} {B : State → Prop} (hr : va_Run p l e R s m args below meth c H locs cells slots 0 0 (F0 m pc ls st0) rest (fun st oc t => (oc = .returned v ∧ B t) ∧ va_F A1 st t) free) (hS : va_S A0 H0 H locs) (hA : ∀ q, q < H.size → A1 q → A0 q) (hf : ∀ q, free q → A0 q)
    (kk : ∀ (t : State) (H1 : Heap) (locs1 : List Loc), t.heap = H1 → B t → va_S A0 H0 H1 locs1 → W p l e R s m args below meth c H1 locs1 cells slots Q (F0 m (pc + 3) ls (v.toList ++ rest))) : W p l e R s m args below meth c H locs cells slots Q (F0 m pc ls st0) := by
  intro T hT X
  obtain ⟨v', st₀, t, T', L, h0, X', hL, e1, e2, ⟨⟨hv, hb⟩, hz, hk⟩, st⟩ := hr T hT X
  cases hv
  rw [h0] at hz hk
  obtain ⟨t2, a1, b1⟩ := kk t T'.heap (locs ++ L) e1.symm hb
    ⟨Nat.le_trans hS.1 (by rw [e1]; exact hz), fun q h1 h2 => by rw [e1, hk q (Nat.lt_of_lt_of_le h1 hS.1) (fun z => h2 (hA q (Nat.lt_of_lt_of_le h1 hS.1) z))]; exact hS.2.1 q h1 h2, fun q hq => by
      rcases List.mem_append.mp hq with h | h
      · exact hS.2.2 q h
      · exact hf _ (hL q h)⟩ T' rfl X'
  exact ⟨t2, st t2 a1, b1⟩
end ZCALL
section ZV
variable {E : zEv} {cc : ByteArray} {nL pc fr lo : Nat} {own : String} {L : List (Nat × Value)} {S : List Value} {M : zM}
/-- the callee's start, at the caller's heap -/
theorem z_pre {av : List Value} {H : Heap} {locs : List Loc} (Z : zC E cc nL own fr lo) (hP : va_P (eG E).1 zCl (zW (eG E) (ead E) M) H) (hS : va_S (eA E) (es E).heap H locs) : ∀ U : State, U.heap = H → (es E).WarmedH U.vm → zPc (eG E) (ead E) H.size av M (av.map (cv (ead E))).toArray U := fun U hU hW => by
  obtain ⟨hx, hb, hml, hown, hts, hK, hinj, hX, -⟩ := Z
  refine ⟨rfl, by rw [hU], by rw [hU]; exact hP, va_K.moved hW.alike hK, hinj, ?_⟩
  rw [hU]
  exact zExt_warm hW (zExt_narrow (zExt_kept hX hS.2.1) (zA_mono hS.1))
theorem cv_sum (ad : Nat → Nat) (l : List Value) : ((l.map (cv ad)).map fun v => v.category).sum = (l.map fun v => v.category).sum := by
  rw [List.map_map]
  congr 2
  funext v
  exact cv_cat ad v
/-- what the tables say of a method that is called -/
def zCd (y : MethodName) (bytes : ByteArray) (mL : Nat) (ret : Option FieldType) (n : Nat) : Prop := Cond.code y bytes mL ret ∈ zTB ∧ Cond.initialized y.cls ∈ zTB ∧ (y.cls ≠ "java/lang/invoke/MethodHandle" ∧ y.cls ≠ "java/lang/invoke/VarHandle") ∧ (parseMethodDescriptor y.desc).map (fun d => d.parameters.length) = some n
theorem z_cb {y : MethodName} {bytes : ByteArray} {mL n fr2 lo2 index : Nat} {ret : Option FieldType} (Z : zC E cc nL own fr lo) (hy : zCd y bytes mL ret n) (hl : Cond.methodLink own index y ∈ zTB) (hR : fr2 + 1 ≤ fr ∧ 8 + (mL + 11) + lo2 ≤ lo) : CallB (eR E) (es E) (ea E) own index y bytes mL ret (.code y bytes mL ret :: zTB) ({ frames := fr2, cells := 0, slots := 0, locals := lo2 } : Room) 0 0 n := by
  obtain ⟨h1, h2, h3, h4⟩ := hy
  have hts := Z.2.2.2.2.1
  exact callB_of n hts (zTB_goodIn h1 (fun w h => h)) rfl rfl rfl (hts _ h2) (hts _ hl) ⟨h3.1, h3.2, h4⟩ ⟨Nat.le_trans hR.1 Z.2.2.2.2.2.2.2.2.1.1, Nat.le_trans hR.2 Z.2.2.2.2.2.2.2.2.1.2⟩
theorem z_recv {k ci : Nat} {fl : List (Option Nat)} {C : String} {T : u_T} {N : Nat} {ty : Nat → FieldType} {H : Heap} (Z : zC E cc nL own fr lo) (hP : va_P (eG E).1 zCl (zW (eG E) (ead E) M) H) (hc : zCls ci C T N ty) (hk : k < NC) (hs : sh k = .inr (.inl (ci, fl))) : ∃ cell : Cell, H[ead E k]? = some cell ∧ cell.vm.isStatics = false ∧ (es E).vm.findClass C = some cell.cls := by
  have hz := zW_at (G := eG E) (ad := ead E) (M := M) hk
  rw [zE_obj hs] at hz
  exact va_recv Z.2.2.2.2.2.1 hP (ci := ci) (q0 := k) hc.1 hz
/-- a virtual call (a private method of one's own class among them) -/
theorem V_callV {y : MethodName} {bytes : ByteArray} {mL fr2 lo2 index : Nat} {ret : Option FieldType} {k ci N : Nat} {fl : List (Option Nat)} {T : u_T} {ty : Nat → FieldType} {As rest : List Value} {v : Option Value} {M' : zM} (n : Nat) (Z : zC E cc nL own fr lo) (hr : zRuns y bytes mL ret fr2 lo2 (.ref k :: As) M v M') (hy : zCd y bytes mL ret n) (hc : zCls ci y.cls T N ty) (hk : k < NC) (hs : sh k = .inr (.inl (ci, fl))) (hl : Cond.methodLink own index y ∈ zTB) (hi : Cond.instanceMethod y ∈ zTB) (hsel : Cond.selects y.cls y y ∈ zTB) (hst : S = As.reverse ++ .ref k :: rest) (hd : decode cc pc = .ok (.invokevirtual index, 3)) (hR : (decide (fr2 + 1 ≤ fr) && decide (8 + (mL + 11) + lo2 ≤ lo) && decide (As.length = n) && decide ((rest.map fun v => v.category).sum ≤ 8)) = true) (kk : VV E nL (pc + 3) L (v.toList ++ rest) M') : VV E nL pc L S M := fun H locs ls hP hS hl2 => by
  simp only [Bool.and_eq_true, decide_eq_true_eq] at hR
  subst hst
  have hx := Z.1
  refine z_callg (va_runV (C := y.cls) (As := As.map (cv (ead E))) (b := ead E k) (rest := rest.map (cv (ead E))) (n := n) ⟨Z.1, Z.2.1, Z.2.2.1, Z.2.2.2.1, Z.2.2.2.2.1⟩ (hr (el E) (eG E) (ead E) H.size) ⟨z_cb Z hy hl ⟨hR.1.1.1, hR.1.1.2⟩, Z.2.2.2.2.1 _ hi, Z.2.2.2.2.1 _ hsel⟩ ⟨zPc_blind, z_recv Z hP hc hk hs, z_pre Z hP hS⟩ rfl (by rw [List.length_map]; exact hR.1.2) hl2.1 ?_ ?_ hd ⟨Z.2.2.2.2.2.2.2.2.2.1, Z.2.2.2.2.2.2.2.2.2.2⟩) hS (fun q _ h => zA_mono hS.1 q h) (fun q h => zA_mono hS.1 q h) (fun t H1 locs1 ht hB hS1 => ?_)
  · show List.map (cv (ead E)) (As.reverse ++ .ref k :: rest) = _
    rw [List.map_append, List.map_reverse]
    rfl
  · show 2 * 0 + _ ≤ 8
    rw [cv_sum]
    omega
  · subst ht
    have h2 := kk t.heap locs1 ls hB hS1 hl2
    rw [List.map_append] at h2
    cases v <;> exact h2
/-- a static call -/
theorem V_callS {y : MethodName} {bytes : ByteArray} {mL fr2 lo2 index : Nat} {ret : Option FieldType} {As rest : List Value} {v : Option Value} {M' : zM} (n : Nat) (Z : zC E cc nL own fr lo) (hr : zRuns y bytes mL ret fr2 lo2 As M v M') (hy : zCd y bytes mL ret n) (hl : Cond.methodLink own index y ∈ zTB) (hi : Cond.static y ∈ zTB) (hst : S = As.reverse ++ rest) (hd : decode cc pc = .ok (.invokestatic index, 3)) (hR : (decide (fr2 + 1 ≤ fr) && decide (8 + (mL + 11) + lo2 ≤ lo) && decide (As.length = n) && decide ((rest.map fun v => v.category).sum ≤ 8)) = true) (kk : VV E nL (pc + 3) L (v.toList ++ rest) M') : VV E nL pc L S M := fun H locs ls hP hS hl2 => by
  simp only [Bool.and_eq_true, decide_eq_true_eq] at hR
  subst hst
  refine z_callg (va_runS (As := As.map (cv (ead E))) (rest := rest.map (cv (ead E))) (n := n) ⟨Z.1, Z.2.1, Z.2.2.1, Z.2.2.2.1, Z.2.2.2.2.1⟩ (hr (el E) (eG E) (ead E) H.size) ⟨z_cb Z hy hl ⟨hR.1.1.1, hR.1.1.2⟩, Z.2.2.2.2.1 _ hi⟩ ⟨zPc_blind, z_pre Z hP hS⟩ rfl (by rw [List.length_map]; exact hR.1.2) hl2.1 ?_ ?_ hd ⟨Z.2.2.2.2.2.2.2.2.2.1, Z.2.2.2.2.2.2.2.2.2.2⟩) hS (fun q _ h => zA_mono hS.1 q h) (fun q h => zA_mono hS.1 q h) (fun t H1 locs1 ht hB hS1 => ?_)
  · show List.map (cv (ead E)) (As.reverse ++ rest) = _
    rw [List.map_append, List.map_reverse]
  · show 2 * 0 + _ ≤ 8
    rw [cv_sum]
    omega
  · subst ht
    have h2 := kk t.heap locs1 ls hB hS1 hl2
    rw [List.map_append] at h2
    cases v <;> exact h2
/-- a static call of a nest mate's private method -/
theorem V_callSN {y : MethodName} {bytes : ByteArray} {mL fr2 lo2 index : Nat} {ret : Option FieldType} {As rest : List Value} {v : Option Value} {M' : zM} (n : Nat) (host : String) (Z : zC E cc nL own fr lo) (hr : zRuns y bytes mL ret fr2 lo2 As M v M') (hy : zCd y bytes mL ret n) (hl : Cond.methodLinkNest own index y host ∈ zTB) (hi : Cond.static y ∈ zTB) (hst : S = As.reverse ++ rest) (hd : decode cc pc = .ok (.invokestatic index, 3)) (hR : (decide (fr2 + 1 ≤ fr) && decide (8 + (mL + 11) + lo2 ≤ lo) && decide (As.length = n) && decide ((rest.map fun v => v.category).sum ≤ 8)) = true) (kk : VV E nL (pc + 3) L (v.toList ++ rest) M') : VV E nL pc L S M := fun H locs ls hP hS hl2 => by
  simp only [Bool.and_eq_true, decide_eq_true_eq] at hR
  subst hst
  obtain ⟨h1, h2, h3, h4⟩ := id hy
  have hts := Z.2.2.2.2.1
  have hN : va_Nw (.methodLinkNest own index y host) (es E) := va_Nw.use (U := es E) rfl (hts _ hl)
  refine z_callg (va_runSN (host := host) (As := As.map (cv (ead E))) (rest := rest.map (cv (ead E))) (n := n) ⟨Z.1, Z.2.1, Z.2.2.1, Z.2.2.2.1, Z.2.2.2.2.1⟩ (hr (el E) (eG E) (ead E) H.size) ⟨va_cnB n hts (zTB_goodIn h1 (fun w h => h)) rfl rfl rfl hN (hts _ h2) ⟨h3.1, h3.2, h4⟩ ⟨Nat.le_trans hR.1.1.1 Z.2.2.2.2.2.2.2.2.1.1, Nat.le_trans hR.1.1.2 Z.2.2.2.2.2.2.2.2.1.2⟩, hts _ hi, trivial⟩ ⟨zPc_blind, z_pre Z hP hS⟩ rfl (by rw [List.length_map]; exact hR.1.2) hl2.1 ?_ ?_ hd ⟨Z.2.2.2.2.2.2.2.2.2.1, Z.2.2.2.2.2.2.2.2.2.2⟩) hS (fun q _ h => zA_mono hS.1 q h) (fun q h => zA_mono hS.1 q h) (fun t H1 locs1 ht hB hS1 => ?_)
  · show List.map (cv (ead E)) (As.reverse ++ rest) = _
    rw [List.map_append, List.map_reverse]
  · show 2 * 0 + _ ≤ 8
    rw [cv_sum]
    omega
  · subst ht
    have h2 := kk t.heap locs1 ls hB hS1 hl2
    rw [List.map_append] at h2
    cases v <;> exact h2
end ZV
section ZN
variable {E : zEv} {cc : ByteArray} {nL pc fr lo : Nat} {own : String} {L : List (Nat × Value)} {S : List Value} {M : zM}
def zMM : List Cond := [.static Lib.Math.min.name, .initialized "java/lang/Math", .code Lib.Math.min.name Lib.Math.min.code 2 (some .int), .static Lib.Math.max.name, .code Lib.Math.max.name Lib.Math.max.code 2 (some .int)]
theorem V_min {index : Nat} {x y : Int32} (Z : zC E cc nL own fr lo) (hl : Cond.methodLink own index Lib.Math.min.name ∈ zTB) (hs : Cond.static Lib.Math.min.name ∈ zTB) (hi : Cond.initialized "java/lang/Math" ∈ zTB) (hc : Cond.code Lib.Math.min.name Lib.Math.min.code 2 (some .int) ∈ zTB) (hd : decode cc pc = .ok (.invokestatic index, 3)) (hR : (decide (1 ≤ fr) && decide ((S.map fun v => v.category).sum + 13 ≤ lo)) = true) (k : VV E nL (pc + 3) L (.int (if y < x then y else x) :: S) M) : VV E nL pc L (.int y :: .int x :: S) M := fun H locs ls hP hS hl2 => by
  simp only [Bool.and_eq_true, decide_eq_true_eq] at hR
  have hts := Z.2.2.2.2.1
  exact va_mmin Z.1 Z.2.1 (Z.2.2.1.trans hl2.1.symm) Z.2.2.2.1 (hts _ hl) (hts _ hs) (hts _ hi) (hts _ hc) (Nat.le_trans hR.1 Z.2.2.2.2.2.2.2.2.1.1) (by rw [cv_sum]; exact Nat.le_trans hR.2 Z.2.2.2.2.2.2.2.2.1.2) Z.2.2.2.2.2.2.2.2.2.1 Z.2.2.2.2.2.2.2.2.2.2 hd (k H locs ls hP hS hl2)
theorem V_max {index : Nat} {x y : Int32} (Z : zC E cc nL own fr lo) (hl : Cond.methodLink own index Lib.Math.max.name ∈ zTB) (hs : Cond.static Lib.Math.max.name ∈ zTB) (hi : Cond.initialized "java/lang/Math" ∈ zTB) (hc : Cond.code Lib.Math.max.name Lib.Math.max.code 2 (some .int) ∈ zTB) (hd : decode cc pc = .ok (.invokestatic index, 3)) (hR : (decide (1 ≤ fr) && decide ((S.map fun v => v.category).sum + 13 ≤ lo)) = true) (k : VV E nL (pc + 3) L (.int (if x < y then y else x) :: S) M) : VV E nL pc L (.int y :: .int x :: S) M := fun H locs ls hP hS hl2 => by
  simp only [Bool.and_eq_true, decide_eq_true_eq] at hR
  have hts := Z.2.2.2.2.1
  exact va_mmax Z.1 Z.2.1 (Z.2.2.1.trans hl2.1.symm) Z.2.2.2.1 (hts _ hl) (hts _ hs) (hts _ hi) (hts _ hc) (Nat.le_trans hR.1 Z.2.2.2.2.2.2.2.2.1.1) (by rw [cv_sum]; exact Nat.le_trans hR.2 Z.2.2.2.2.2.2.2.2.1.2) Z.2.2.2.2.2.2.2.2.2.1 Z.2.2.2.2.2.2.2.2.2.2 hd (k H locs ls hP hS hl2)
theorem zcp_spec {M' : zM} {a b : Nat} {sp dp n : Int32} (h : zcp M a sp b dp n = some M') : ∃ na nb, sh a = .inl na ∧ sh b = .inl nb ∧ ¬ sp < 0 ∧ ¬ dp < 0 ∧ ¬ n < 0 ∧ sp.toNatClampNeg + n.toNatClampNeg ≤ na ∧ dp.toNatClampNeg + n.toNatClampNeg ≤ nb ∧ M' = zCp M a b sp.toNatClampNeg dp.toNatClampNeg n.toNatClampNeg := by
  unfold zcp at h
  split at h
  · rename_i na nb h1 h2
    split at h
    · cases h
    · rename_i hc
      cases h
      simp only [not_or, Nat.not_lt] at hc
      exact ⟨na, nb, h1, h2, hc.1, hc.2.1, hc.2.2.1, hc.2.2.2.1, hc.2.2.2.2, rfl⟩
  · cases h
theorem V_copy {M' : zM} {index a b : Nat} {sp dp n : Int32} (Z : zC E cc nL own fr lo) (h : zcp M a sp b dp n = some M') (ha : a < NC) (hb2 : b < NC) (hl : Cond.methodLink own index arraycopyName ∈ zTB) (hna : Cond.native arraycopyName ∈ zTB) (hs : Cond.static arraycopyName ∈ zTB) (hi : Cond.initialized "java/lang/System" ∈ zTB) (hd : decode cc pc = .ok (.invokestatic index, 3)) (hR : (decide (1 ≤ fr) && decide ((S.map fun v => v.category).sum + (nativeFrameWords "java/lang/System" "arraycopy" 5 + 11) ≤ lo)) = true) (k : VV E nL (pc + 3) L S M') : VV E nL pc L (.int n :: .int dp :: .ref b :: .int sp :: .ref a :: S) M := fun H locs ls hP hS hl2 => by
  simp only [Bool.and_eq_true, decide_eq_true_eq] at hR
  have hts := Z.2.2.2.2.1
  obtain ⟨na, nb, h1, h2, h3, h4, h5, h6, h7, rfl⟩ := zcp_spec h
  have hza := zW_at (G := eG E) (ad := ead E) (M := M) ha
  rw [zE_arr h1] at hza
  have hzb := zW_at (G := eG E) (ad := ead E) (M := M) hb2
  rw [zE_arr h2] at hzb
  refine va_copyi Z.1 Z.2.1 (Z.2.2.1.trans hl2.1.symm) Z.2.2.2.1 (hts _ hl) (hts _ hna) (hts _ hs) (hts _ hi) Z.2.2.2.2.2.1 hP (zD (sz := (es E).heap.size) Z.2.2.2.2.2.2.1) hS a b 0 0 hza hzb rfl rfl rfl h3 h4 h5 h6 h7 (fun _ _ => rfl) (Nat.le_trans hR.1 Z.2.2.2.2.2.2.2.2.1.1) (by rw [cv_sum]; exact Nat.le_trans hR.2 Z.2.2.2.2.2.2.2.2.1.2) hd (fun H1 locs1 hP1 hD1 hS1 => ?_)
  rw [zW_set (M' := zCp M a b sp.toNatClampNeg dp.toNatClampNeg n.toNatClampNeg) hb2 (by rw [zE_arr h2]; simp [zCp]) (fun q hq => by simp [zCp, hq])] at hP1
  exact k H1 locs1 ls hP1 hS1 hl2
end ZN
end
