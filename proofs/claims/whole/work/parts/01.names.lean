-- ===== PART A: goes FIRST, ahead of the names: the tables' words, and 'selects' of the private methods out of them =====
/-- a private method of a class that the tables say can be made, by its rows of tables_1 -/
def lw_okq (q : MethodName × Nat) : Prop := (q.1.cls ≠ "java/lang/invoke/MethodHandle" ∧ q.1.cls ≠ "java/lang/invoke/VarHandle") ∧ Cond.instantiable q.1.cls q.2 ∈ tables_1 ∧ Cond.privateMethod q.1 ∈ tables_1 ∧ Cond.instanceMethod q.1 ∈ tables_1
theorem lw_p0 : lw_okq (⟨"DrawerWall", "counted", "(I)I"⟩, 15) := ⟨⟨by decide +kernel, by decide +kernel⟩, List.mem_of_getElem? (i := 15) (by decide +kernel), List.mem_of_getElem? (i := 264) (by decide +kernel), List.mem_of_getElem? (i := 265) (by decide +kernel)⟩
theorem lw_p1 : lw_okq (⟨"DrawerWall$Reader", "scan", "()V"⟩, 5) := ⟨⟨by decide +kernel, by decide +kernel⟩, List.mem_of_getElem? (i := 118) (by decide +kernel), List.mem_of_getElem? (i := 355) (by decide +kernel), List.mem_of_getElem? (i := 356) (by decide +kernel)⟩
theorem lw_p2 : lw_okq (⟨"DrawerWall$Reader", "wordHere", "()I"⟩, 5) := ⟨⟨by decide +kernel, by decide +kernel⟩, List.mem_of_getElem? (i := 118) (by decide +kernel), List.mem_of_getElem? (i := 367) (by decide +kernel), List.mem_of_getElem? (i := 368) (by decide +kernel)⟩
theorem lw_p3 : lw_okq (⟨"DrawerWall$Reader", "isHere", "(Ljava/lang/String;)Z"⟩, 5) := ⟨⟨by decide +kernel, by decide +kernel⟩, List.mem_of_getElem? (i := 118) (by decide +kernel), List.mem_of_getElem? (i := 372) (by decide +kernel), List.mem_of_getElem? (i := 373) (by decide +kernel)⟩
theorem lw_p4 : lw_okq (⟨"DrawerWall$Reader", "numberHere", "()I"⟩, 5) := ⟨⟨by decide +kernel, by decide +kernel⟩, List.mem_of_getElem? (i := 118) (by decide +kernel), List.mem_of_getElem? (i := 431) (by decide +kernel), List.mem_of_getElem? (i := 432) (by decide +kernel)⟩
theorem lw_p5 : lw_okq (⟨"DrawerWall$Reader", "takeItem", "(I)Z"⟩, 5) := ⟨⟨by decide +kernel, by decide +kernel⟩, List.mem_of_getElem? (i := 118) (by decide +kernel), List.mem_of_getElem? (i := 439) (by decide +kernel), List.mem_of_getElem? (i := 440) (by decide +kernel)⟩
theorem lw_p6 : lw_okq (⟨"DrawerWall$Reader", "tell", "(LDrawerWall$Wall;I)I"⟩, 5) := ⟨⟨by decide +kernel, by decide +kernel⟩, List.mem_of_getElem? (i := 118) (by decide +kernel), List.mem_of_getElem? (i := 451) (by decide +kernel), List.mem_of_getElem? (i := 452) (by decide +kernel)⟩
theorem lw_p7 : lw_okq (⟨"DrawerWall$Wall", "amountOf", "(IIZ)I"⟩, 14) := ⟨⟨by decide +kernel, by decide +kernel⟩, List.mem_of_getElem? (i := 23) (by decide +kernel), List.mem_of_getElem? (i := 506) (by decide +kernel), List.mem_of_getElem? (i := 507) (by decide +kernel)⟩
theorem lw_p8 : lw_okq (⟨"DrawerWall", "pullOf", "(IIIZ)I"⟩, 15) := ⟨⟨by decide +kernel, by decide +kernel⟩, List.mem_of_getElem? (i := 15) (by decide +kernel), List.mem_of_getElem? (i := 548) (by decide +kernel), List.mem_of_getElem? (i := 549) (by decide +kernel)⟩
theorem lw_p9 : lw_okq (⟨"DrawerWall$Walk", "meet", "(III)V"⟩, 11) := ⟨⟨by decide +kernel, by decide +kernel⟩, List.mem_of_getElem? (i := 142) (by decide +kernel), List.mem_of_getElem? (i := 579) (by decide +kernel), List.mem_of_getElem? (i := 580) (by decide +kernel)⟩
theorem lw_p10 : lw_okq (⟨"DrawerWall$Walk", "grow", "(I)V"⟩, 11) := ⟨⟨by decide +kernel, by decide +kernel⟩, List.mem_of_getElem? (i := 142) (by decide +kernel), List.mem_of_getElem? (i := 587) (by decide +kernel), List.mem_of_getElem? (i := 588) (by decide +kernel)⟩
theorem lw_p11 : lw_okq (⟨"DrawerWall$Walk", "step", "(II)I"⟩, 11) := ⟨⟨by decide +kernel, by decide +kernel⟩, List.mem_of_getElem? (i := 142) (by decide +kernel), List.mem_of_getElem? (i := 591) (by decide +kernel), List.mem_of_getElem? (i := 592) (by decide +kernel)⟩
theorem lw_p12 : lw_okq (⟨"DrawerWall", "walkFromNow", "()I"⟩, 15) := ⟨⟨by decide +kernel, by decide +kernel⟩, List.mem_of_getElem? (i := 15) (by decide +kernel), List.mem_of_getElem? (i := 609) (by decide +kernel), List.mem_of_getElem? (i := 610) (by decide +kernel)⟩
theorem lw_p13 : lw_okq (⟨"DrawerWall$Walk", "isJam", "(I)Z"⟩, 11) := ⟨⟨by decide +kernel, by decide +kernel⟩, List.mem_of_getElem? (i := 142) (by decide +kernel), List.mem_of_getElem? (i := 621) (by decide +kernel), List.mem_of_getElem? (i := 622) (by decide +kernel)⟩
theorem lw_p14 : lw_okq (⟨"DrawerWall", "isSumKept", "(I)Z"⟩, 15) := ⟨⟨by decide +kernel, by decide +kernel⟩, List.mem_of_getElem? (i := 15) (by decide +kernel), List.mem_of_getElem? (i := 637) (by decide +kernel), List.mem_of_getElem? (i := 638) (by decide +kernel)⟩
theorem lw_p15 : lw_okq (⟨"DrawerWall", "openableWith", "(III)I"⟩, 15) := ⟨⟨by decide +kernel, by decide +kernel⟩, List.mem_of_getElem? (i := 15) (by decide +kernel), List.mem_of_getElem? (i := 654) (by decide +kernel), List.mem_of_getElem? (i := 655) (by decide +kernel)⟩
def lw_privs_1 : List (MethodName × Nat) := [(⟨"DrawerWall", "counted", "(I)I"⟩, 15), (⟨"DrawerWall$Reader", "scan", "()V"⟩, 5), (⟨"DrawerWall$Reader", "wordHere", "()I"⟩, 5), (⟨"DrawerWall$Reader", "isHere", "(Ljava/lang/String;)Z"⟩, 5), (⟨"DrawerWall$Reader", "numberHere", "()I"⟩, 5), (⟨"DrawerWall$Reader", "takeItem", "(I)Z"⟩, 5), (⟨"DrawerWall$Reader", "tell", "(LDrawerWall$Wall;I)I"⟩, 5), (⟨"DrawerWall$Wall", "amountOf", "(IIZ)I"⟩, 14), (⟨"DrawerWall", "pullOf", "(IIIZ)I"⟩, 15), (⟨"DrawerWall$Walk", "meet", "(III)V"⟩, 11), (⟨"DrawerWall$Walk", "grow", "(I)V"⟩, 11), (⟨"DrawerWall$Walk", "step", "(II)I"⟩, 11), (⟨"DrawerWall", "walkFromNow", "()I"⟩, 15), (⟨"DrawerWall$Walk", "isJam", "(I)Z"⟩, 11), (⟨"DrawerWall", "isSumKept", "(I)Z"⟩, 15), (⟨"DrawerWall", "openableWith", "(III)I"⟩, 15)]
theorem lw_r1 : ∀ q ∈ lw_privs_1, lw_okq q := List.forall_mem_cons.mpr ⟨lw_p0, List.forall_mem_cons.mpr ⟨lw_p1, List.forall_mem_cons.mpr ⟨lw_p2, List.forall_mem_cons.mpr ⟨lw_p3, List.forall_mem_cons.mpr ⟨lw_p4, List.forall_mem_cons.mpr ⟨lw_p5, List.forall_mem_cons.mpr ⟨lw_p6, List.forall_mem_cons.mpr ⟨lw_p7, List.forall_mem_cons.mpr ⟨lw_p8, List.forall_mem_cons.mpr ⟨lw_p9, List.forall_mem_cons.mpr ⟨lw_p10, List.forall_mem_cons.mpr ⟨lw_p11, List.forall_mem_cons.mpr ⟨lw_p12, List.forall_mem_cons.mpr ⟨lw_p13, List.forall_mem_cons.mpr ⟨lw_p14, List.forall_mem_cons.mpr ⟨lw_p15, fun _ h => absurd h List.not_mem_nil⟩⟩⟩⟩⟩⟩⟩⟩⟩⟩⟩⟩⟩⟩⟩⟩
theorem lw_p16 : lw_okq (⟨"DrawerWall", "imageAt", "(I)LDrawerWall$Wall;"⟩, 15) := ⟨⟨by decide +kernel, by decide +kernel⟩, List.mem_of_getElem? (i := 15) (by decide +kernel), List.mem_of_getElem? (i := 733) (by decide +kernel), List.mem_of_getElem? (i := 734) (by decide +kernel)⟩
theorem lw_p17 : lw_okq (⟨"DrawerWall", "countOf", "(I)I"⟩, 15) := ⟨⟨by decide +kernel, by decide +kernel⟩, List.mem_of_getElem? (i := 15) (by decide +kernel), List.mem_of_getElem? (i := 749) (by decide +kernel), List.mem_of_getElem? (i := 750) (by decide +kernel)⟩
theorem lw_p18 : lw_okq (⟨"DrawerWallModel", "begins", "(I)V"⟩, 20) := ⟨⟨by decide +kernel, by decide +kernel⟩, List.mem_of_getElem? (i := 760) (by decide +kernel), List.mem_of_getElem? (i := 766) (by decide +kernel), List.mem_of_getElem? (i := 767) (by decide +kernel)⟩
theorem lw_p19 : lw_okq (⟨"DrawerWallModel", "bad", "()I"⟩, 20) := ⟨⟨by decide +kernel, by decide +kernel⟩, List.mem_of_getElem? (i := 760) (by decide +kernel), List.mem_of_getElem? (i := 841) (by decide +kernel), List.mem_of_getElem? (i := 842) (by decide +kernel)⟩
theorem lw_p20 : lw_okq (⟨"DrawerWallModel", "refuses", "(II)I"⟩, 20) := ⟨⟨by decide +kernel, by decide +kernel⟩, List.mem_of_getElem? (i := 760) (by decide +kernel), List.mem_of_getElem? (i := 845) (by decide +kernel), List.mem_of_getElem? (i := 846) (by decide +kernel)⟩
theorem lw_p21 : lw_okq (⟨"DrawerWallModel", "isDrawer", "(I)Z"⟩, 20) := ⟨⟨by decide +kernel, by decide +kernel⟩, List.mem_of_getElem? (i := 760) (by decide +kernel), List.mem_of_getElem? (i := 853) (by decide +kernel), List.mem_of_getElem? (i := 854) (by decide +kernel)⟩
theorem lw_p22 : lw_okq (⟨"DrawerWallModel", "full", "()I"⟩, 20) := ⟨⟨by decide +kernel, by decide +kernel⟩, List.mem_of_getElem? (i := 760) (by decide +kernel), List.mem_of_getElem? (i := 859) (by decide +kernel), List.mem_of_getElem? (i := 860) (by decide +kernel)⟩
theorem lw_p23 : lw_okq (⟨"DrawerWallModel", "ties", "(IIII)V"⟩, 20) := ⟨⟨by decide +kernel, by decide +kernel⟩, List.mem_of_getElem? (i := 760) (by decide +kernel), List.mem_of_getElem? (i := 863) (by decide +kernel), List.mem_of_getElem? (i := 864) (by decide +kernel)⟩
theorem lw_p24 : lw_okq (⟨"DrawerWallModel", "no", "()I"⟩, 20) := ⟨⟨by decide +kernel, by decide +kernel⟩, List.mem_of_getElem? (i := 760) (by decide +kernel), List.mem_of_getElem? (i := 871) (by decide +kernel), List.mem_of_getElem? (i := 872) (by decide +kernel)⟩
theorem lw_p25 : lw_okq (⟨"DrawerWallModel", "reads", "()Z"⟩, 20) := ⟨⟨by decide +kernel, by decide +kernel⟩, List.mem_of_getElem? (i := 760) (by decide +kernel), List.mem_of_getElem? (i := 903) (by decide +kernel), List.mem_of_getElem? (i := 904) (by decide +kernel)⟩
theorem lw_p26 : lw_okq (⟨"DrawerWallModel", "scans", "()V"⟩, 20) := ⟨⟨by decide +kernel, by decide +kernel⟩, List.mem_of_getElem? (i := 760) (by decide +kernel), List.mem_of_getElem? (i := 907) (by decide +kernel), List.mem_of_getElem? (i := 908) (by decide +kernel)⟩
theorem lw_p27 : lw_okq (⟨"DrawerWallModel", "isAt", "(II)Z"⟩, 20) := ⟨⟨by decide +kernel, by decide +kernel⟩, List.mem_of_getElem? (i := 760) (by decide +kernel), List.mem_of_getElem? (i := 911) (by decide +kernel), List.mem_of_getElem? (i := 912) (by decide +kernel)⟩
theorem lw_p28 : lw_okq (⟨"DrawerWallModel", "tellsItem", "(I)Z"⟩, 20) := ⟨⟨by decide +kernel, by decide +kernel⟩, List.mem_of_getElem? (i := 760) (by decide +kernel), List.mem_of_getElem? (i := 925) (by decide +kernel), List.mem_of_getElem? (i := 926) (by decide +kernel)⟩
theorem lw_p29 : lw_okq (⟨"DrawerWallModel", "allCords", "()I"⟩, 20) := ⟨⟨by decide +kernel, by decide +kernel⟩, List.mem_of_getElem? (i := 760) (by decide +kernel), List.mem_of_getElem? (i := 938) (by decide +kernel), List.mem_of_getElem? (i := 939) (by decide +kernel)⟩
theorem lw_p30 : lw_okq (⟨"DrawerWallModel", "pulled", "(III)I"⟩, 20) := ⟨⟨by decide +kernel, by decide +kernel⟩, List.mem_of_getElem? (i := 760) (by decide +kernel), List.mem_of_getElem? (i := 942) (by decide +kernel), List.mem_of_getElem? (i := 943) (by decide +kernel)⟩
theorem lw_p31 : lw_okq (⟨"DrawerWallModel", "isBeside", "(II)Z"⟩, 20) := ⟨⟨by decide +kernel, by decide +kernel⟩, List.mem_of_getElem? (i := 760) (by decide +kernel), List.mem_of_getElem? (i := 946) (by decide +kernel), List.mem_of_getElem? (i := 947) (by decide +kernel)⟩
def lw_privs_2 : List (MethodName × Nat) := [(⟨"DrawerWall", "imageAt", "(I)LDrawerWall$Wall;"⟩, 15), (⟨"DrawerWall", "countOf", "(I)I"⟩, 15), (⟨"DrawerWallModel", "begins", "(I)V"⟩, 20), (⟨"DrawerWallModel", "bad", "()I"⟩, 20), (⟨"DrawerWallModel", "refuses", "(II)I"⟩, 20), (⟨"DrawerWallModel", "isDrawer", "(I)Z"⟩, 20), (⟨"DrawerWallModel", "full", "()I"⟩, 20), (⟨"DrawerWallModel", "ties", "(IIII)V"⟩, 20), (⟨"DrawerWallModel", "no", "()I"⟩, 20), (⟨"DrawerWallModel", "reads", "()Z"⟩, 20), (⟨"DrawerWallModel", "scans", "()V"⟩, 20), (⟨"DrawerWallModel", "isAt", "(II)Z"⟩, 20), (⟨"DrawerWallModel", "tellsItem", "(I)Z"⟩, 20), (⟨"DrawerWallModel", "allCords", "()I"⟩, 20), (⟨"DrawerWallModel", "pulled", "(III)I"⟩, 20), (⟨"DrawerWallModel", "isBeside", "(II)Z"⟩, 20)]
theorem lw_r2 : ∀ q ∈ lw_privs_2, lw_okq q := List.forall_mem_cons.mpr ⟨lw_p16, List.forall_mem_cons.mpr ⟨lw_p17, List.forall_mem_cons.mpr ⟨lw_p18, List.forall_mem_cons.mpr ⟨lw_p19, List.forall_mem_cons.mpr ⟨lw_p20, List.forall_mem_cons.mpr ⟨lw_p21, List.forall_mem_cons.mpr ⟨lw_p22, List.forall_mem_cons.mpr ⟨lw_p23, List.forall_mem_cons.mpr ⟨lw_p24, List.forall_mem_cons.mpr ⟨lw_p25, List.forall_mem_cons.mpr ⟨lw_p26, List.forall_mem_cons.mpr ⟨lw_p27, List.forall_mem_cons.mpr ⟨lw_p28, List.forall_mem_cons.mpr ⟨lw_p29, List.forall_mem_cons.mpr ⟨lw_p30, List.forall_mem_cons.mpr ⟨lw_p31, fun _ h => absurd h List.not_mem_nil⟩⟩⟩⟩⟩⟩⟩⟩⟩⟩⟩⟩⟩⟩⟩⟩
theorem lw_p32 : lw_okq (⟨"DrawerWallModel", "amount", "(IIZ)I"⟩, 20) := ⟨⟨by decide +kernel, by decide +kernel⟩, List.mem_of_getElem? (i := 760) (by decide +kernel), List.mem_of_getElem? (i := 956) (by decide +kernel), List.mem_of_getElem? (i := 957) (by decide +kernel)⟩
theorem lw_p33 : lw_okq (⟨"DrawerWallModel", "isState", "(I)Z"⟩, 20) := ⟨⟨by decide +kernel, by decide +kernel⟩, List.mem_of_getElem? (i := 760) (by decide +kernel), List.mem_of_getElem? (i := 968) (by decide +kernel), List.mem_of_getElem? (i := 969) (by decide +kernel)⟩
theorem lw_p34 : lw_okq (⟨"DrawerWallModel", "states", "()I"⟩, 20) := ⟨⟨by decide +kernel, by decide +kernel⟩, List.mem_of_getElem? (i := 760) (by decide +kernel), List.mem_of_getElem? (i := 972) (by decide +kernel), List.mem_of_getElem? (i := 973) (by decide +kernel)⟩
theorem lw_p35 : lw_okq (⟨"DrawerWallModel", "rows", "(IIIZ)I"⟩, 20) := ⟨⟨by decide +kernel, by decide +kernel⟩, List.mem_of_getElem? (i := 760) (by decide +kernel), List.mem_of_getElem? (i := 984) (by decide +kernel), List.mem_of_getElem? (i := 985) (by decide +kernel)⟩
theorem lw_p36 : lw_okq (⟨"DrawerWallModel", "lays", "()V"⟩, 20) := ⟨⟨by decide +kernel, by decide +kernel⟩, List.mem_of_getElem? (i := 760) (by decide +kernel), List.mem_of_getElem? (i := 988) (by decide +kernel), List.mem_of_getElem? (i := 989) (by decide +kernel)⟩
theorem lw_p37 : lw_okq (⟨"DrawerWallModel", "reckons", "(IIZ)V"⟩, 20) := ⟨⟨by decide +kernel, by decide +kernel⟩, List.mem_of_getElem? (i := 760) (by decide +kernel), List.mem_of_getElem? (i := 992) (by decide +kernel), List.mem_of_getElem? (i := 993) (by decide +kernel)⟩
theorem lw_p38 : lw_okq (⟨"DrawerWallModel", "isDanger", "(I)Z"⟩, 20) := ⟨⟨by decide +kernel, by decide +kernel⟩, List.mem_of_getElem? (i := 760) (by decide +kernel), List.mem_of_getElem? (i := 996) (by decide +kernel), List.mem_of_getElem? (i := 997) (by decide +kernel)⟩
theorem lw_p39 : lw_okq (⟨"DrawerWallModel", "isEnd", "(III)Z"⟩, 20) := ⟨⟨by decide +kernel, by decide +kernel⟩, List.mem_of_getElem? (i := 760) (by decide +kernel), List.mem_of_getElem? (i := 1000) (by decide +kernel), List.mem_of_getElem? (i := 1001) (by decide +kernel)⟩
theorem lw_p40 : lw_okq (⟨"DrawerWallModel", "next", "(I)I"⟩, 20) := ⟨⟨by decide +kernel, by decide +kernel⟩, List.mem_of_getElem? (i := 760) (by decide +kernel), List.mem_of_getElem? (i := 1004) (by decide +kernel), List.mem_of_getElem? (i := 1005) (by decide +kernel)⟩
theorem lw_p41 : lw_okq (⟨"DrawerWallModel", "goes", "(I)V"⟩, 20) := ⟨⟨by decide +kernel, by decide +kernel⟩, List.mem_of_getElem? (i := 760) (by decide +kernel), List.mem_of_getElem? (i := 1016) (by decide +kernel), List.mem_of_getElem? (i := 1017) (by decide +kernel)⟩
theorem lw_p42 : lw_okq (⟨"DrawerWallModel", "sumBy", "(II)I"⟩, 20) := ⟨⟨by decide +kernel, by decide +kernel⟩, List.mem_of_getElem? (i := 760) (by decide +kernel), List.mem_of_getElem? (i := 1024) (by decide +kernel), List.mem_of_getElem? (i := 1025) (by decide +kernel)⟩
theorem lw_p43 : lw_okq (⟨"DrawerWallModel", "opens", "()I"⟩, 20) := ⟨⟨by decide +kernel, by decide +kernel⟩, List.mem_of_getElem? (i := 760) (by decide +kernel), List.mem_of_getElem? (i := 1036) (by decide +kernel), List.mem_of_getElem? (i := 1037) (by decide +kernel)⟩
theorem lw_p44 : lw_okq (⟨"DrawerWallModel", "days", "()I"⟩, 20) := ⟨⟨by decide +kernel, by decide +kernel⟩, List.mem_of_getElem? (i := 760) (by decide +kernel), List.mem_of_getElem? (i := 1044) (by decide +kernel), List.mem_of_getElem? (i := 1045) (by decide +kernel)⟩
theorem lw_p45 : lw_okq (⟨"DrawerWallModel", "swaps", "(II)V"⟩, 20) := ⟨⟨by decide +kernel, by decide +kernel⟩, List.mem_of_getElem? (i := 760) (by decide +kernel), List.mem_of_getElem? (i := 1052) (by decide +kernel), List.mem_of_getElem? (i := 1053) (by decide +kernel)⟩
theorem lw_p46 : lw_okq (⟨"DrawerWallModel", "countOf", "(I)I"⟩, 20) := ⟨⟨by decide +kernel, by decide +kernel⟩, List.mem_of_getElem? (i := 760) (by decide +kernel), List.mem_of_getElem? (i := 1088) (by decide +kernel), List.mem_of_getElem? (i := 1089) (by decide +kernel)⟩
theorem lw_p47 : lw_okq (⟨"DrawerWallModel", "mixed", "(JII)J"⟩, 20) := ⟨⟨by decide +kernel, by decide +kernel⟩, List.mem_of_getElem? (i := 760) (by decide +kernel), List.mem_of_getElem? (i := 1098) (by decide +kernel), List.mem_of_getElem? (i := 1099) (by decide +kernel)⟩
def lw_privs_3 : List (MethodName × Nat) := [(⟨"DrawerWallModel", "amount", "(IIZ)I"⟩, 20), (⟨"DrawerWallModel", "isState", "(I)Z"⟩, 20), (⟨"DrawerWallModel", "states", "()I"⟩, 20), (⟨"DrawerWallModel", "rows", "(IIIZ)I"⟩, 20), (⟨"DrawerWallModel", "lays", "()V"⟩, 20), (⟨"DrawerWallModel", "reckons", "(IIZ)V"⟩, 20), (⟨"DrawerWallModel", "isDanger", "(I)Z"⟩, 20), (⟨"DrawerWallModel", "isEnd", "(III)Z"⟩, 20), (⟨"DrawerWallModel", "next", "(I)I"⟩, 20), (⟨"DrawerWallModel", "goes", "(I)V"⟩, 20), (⟨"DrawerWallModel", "sumBy", "(II)I"⟩, 20), (⟨"DrawerWallModel", "opens", "()I"⟩, 20), (⟨"DrawerWallModel", "days", "()I"⟩, 20), (⟨"DrawerWallModel", "swaps", "(II)V"⟩, 20), (⟨"DrawerWallModel", "countOf", "(I)I"⟩, 20), (⟨"DrawerWallModel", "mixed", "(JII)J"⟩, 20)]
theorem lw_r3 : ∀ q ∈ lw_privs_3, lw_okq q := List.forall_mem_cons.mpr ⟨lw_p32, List.forall_mem_cons.mpr ⟨lw_p33, List.forall_mem_cons.mpr ⟨lw_p34, List.forall_mem_cons.mpr ⟨lw_p35, List.forall_mem_cons.mpr ⟨lw_p36, List.forall_mem_cons.mpr ⟨lw_p37, List.forall_mem_cons.mpr ⟨lw_p38, List.forall_mem_cons.mpr ⟨lw_p39, List.forall_mem_cons.mpr ⟨lw_p40, List.forall_mem_cons.mpr ⟨lw_p41, List.forall_mem_cons.mpr ⟨lw_p42, List.forall_mem_cons.mpr ⟨lw_p43, List.forall_mem_cons.mpr ⟨lw_p44, List.forall_mem_cons.mpr ⟨lw_p45, List.forall_mem_cons.mpr ⟨lw_p46, List.forall_mem_cons.mpr ⟨lw_p47, fun _ h => absurd h List.not_mem_nil⟩⟩⟩⟩⟩⟩⟩⟩⟩⟩⟩⟩⟩⟩⟩⟩
def lw_privs : List (MethodName × Nat) := lw_privs_1 ++ (lw_privs_2 ++ (lw_privs_3))
def lw_tbl : List Cond := k2_sels lw_privs ++ tables_1
theorem lw_privs_ok : ∀ q ∈ lw_privs, lw_okq q := by
  show ∀ q ∈ lw_privs_1 ++ (lw_privs_2 ++ (lw_privs_3)), lw_okq q
  exact List.forall_mem_append.mpr ⟨lw_r1, List.forall_mem_append.mpr ⟨lw_r2, lw_r3⟩⟩
-- ===== end of PART A; then your names; then what follows =====
/-! ===== BEGIN words of one list among another's, by their places ===== -/
/-! ===== END ===== -/

/-! ===== BEGIN printed: names, fields, word lists, decode rows ===== -/
def RX0 : String := "DrawerWall$Day"
def TX0 : u_T := fun k => match k with
  | 0 => ("DrawerWall$Day", "served", "I", false)
  | _ => ("DrawerWall$Day", "pulls", "I", false)
def tyX0 : Nat → FieldType := fun k => match k with
  | 0 => .int
  | _ => .int
abbrev wsX00 : List Cond := u_ws RX0 TX0 2
theorem nmX0 : ∀ a, a < 2 → ∀ b, b < 2 → a ≠ b → (TX0 a).2.1 ≠ (TX0 b).2.1 := by decide +kernel
theorem tyX0_ok : ∀ k, k < 2 → parseFieldDescriptor (TX0 k).2.2.1 = some (tyX0 k) := by decide +kernel
abbrev cX0_init : ByteArray := prog_2_method_1_code
def yX0_init : MethodName := ⟨RX0, "<init>", "()V"⟩
abbrev cX0_run : ByteArray := prog_2_method_2_code
def yX0_run : MethodName := ⟨RX0, "run", "(LDrawerWall$Wall;LDrawerWall$Walk;II)V"⟩
abbrev cX0_exchanged : ByteArray := prog_2_method_3_code
def yX0_exchanged : MethodName := ⟨RX0, "exchanged", "(III)I"⟩
abbrev cX0_isBetterThan : ByteArray := prog_2_method_4_code
def yX0_isBetterThan : MethodName := ⟨RX0, "isBetterThan", "(LDrawerWall$Day;)Z"⟩
abbrev cX0_copyFrom : ByteArray := prog_2_method_5_code
def yX0_copyFrom : MethodName := ⟨RX0, "copyFrom", "(LDrawerWall$Day;)V"⟩
def RX1 : String := "DrawerWall$Reader"
def TX1 : u_T := fun k => match k with
  | 0 => ("DrawerWall$Reader", "bytes", "LDrawerWall$Row;", true)
  | 1 => ("DrawerWall$Reader", "cells", "LDrawerWall$Row;", true)
  | 2 => ("DrawerWall$Reader", "place", "I", false)
  | 3 => ("DrawerWall$Reader", "next", "I", false)
  | _ => ("DrawerWall$Reader", "token", "I", false)
def tyX1 : Nat → FieldType := fun k => match k with
  | 0 => .object "DrawerWall$Row"
  | 1 => .object "DrawerWall$Row"
  | 2 => .int
  | 3 => .int
  | _ => .int
abbrev wsX10 : List Cond := u_ws RX1 TX1 5
theorem nmX1 : ∀ a, a < 5 → ∀ b, b < 5 → a ≠ b → (TX1 a).2.1 ≠ (TX1 b).2.1 := by decide +kernel
theorem tyX1_ok : ∀ k, k < 5 → parseFieldDescriptor (TX1 k).2.2.1 = some (tyX1 k) := by decide +kernel
abbrev cX1_init : ByteArray := prog_3_method_1_code
def yX1_init : MethodName := ⟨RX1, "<init>", "()V"⟩
abbrev cX1_items : ByteArray := prog_3_method_2_code
def yX1_items : MethodName := ⟨RX1, "items", "()I"⟩
abbrev cX1_faultIn : ByteArray := prog_3_method_3_code
def yX1_faultIn : MethodName := ⟨RX1, "faultIn", "(LDrawerWall$Row;)I"⟩
abbrev cX1_takeItem : ByteArray := prog_3_method_4_code
def yX1_takeItem : MethodName := ⟨RX1, "takeItem", "(I)Z"⟩
abbrev cX1_numbersOf : ByteArray := prog_3_method_5_code
def yX1_numbersOf : MethodName := ⟨RX1, "numbersOf", "(I)I"⟩
abbrev cX1_scan : ByteArray := prog_3_method_6_code
def yX1_scan : MethodName := ⟨RX1, "scan", "()V"⟩
abbrev cX1_numberHere : ByteArray := prog_3_method_7_code
def yX1_numberHere : MethodName := ⟨RX1, "numberHere", "()I"⟩
abbrev cX1_wordHere : ByteArray := prog_3_method_8_code
def yX1_wordHere : MethodName := ⟨RX1, "wordHere", "()I"⟩
abbrev cX1_isHere : ByteArray := prog_3_method_9_code
def yX1_isHere : MethodName := ⟨RX1, "isHere", "(Ljava/lang/String;)Z"⟩
abbrev cX1_isLetter : ByteArray := prog_3_method_10_code
def yX1_isLetter : MethodName := ⟨RX1, "isLetter", "(I)Z"⟩
abbrev cX1_isFigure : ByteArray := prog_3_method_11_code
def yX1_isFigure : MethodName := ⟨RX1, "isFigure", "(I)Z"⟩
abbrev cX1_refusedBy : ByteArray := prog_3_method_12_code
def yX1_refusedBy : MethodName := ⟨RX1, "refusedBy", "(LDrawerWall$Wall;)I"⟩
abbrev cX1_tell : ByteArray := prog_3_method_13_code
def yX1_tell : MethodName := ⟨RX1, "tell", "(LDrawerWall$Wall;I)I"⟩
def RX2 : String := "DrawerWall$Row"
def TX2 : u_T := fun k => match k with
  | 0 => ("DrawerWall$Row", "cells", "[I", true)
  | _ => ("DrawerWall$Row", "size", "I", false)
def tyX2 : Nat → FieldType := fun k => match k with
  | 0 => .array .int
  | _ => .int
abbrev wsX20 : List Cond := u_ws RX2 TX2 2
theorem nmX2 : ∀ a, a < 2 → ∀ b, b < 2 → a ≠ b → (TX2 a).2.1 ≠ (TX2 b).2.1 := by decide +kernel
theorem tyX2_ok : ∀ k, k < 2 → parseFieldDescriptor (TX2 k).2.2.1 = some (tyX2 k) := by decide +kernel
abbrev cX2_init : ByteArray := prog_4_method_1_code
def yX2_init : MethodName := ⟨RX2, "<init>", "(I)V"⟩
abbrev cX2_size : ByteArray := prog_4_method_2_code
def yX2_size : MethodName := ⟨RX2, "size", "()I"⟩
abbrev cX2_isFull : ByteArray := prog_4_method_3_code
def yX2_isFull : MethodName := ⟨RX2, "isFull", "()Z"⟩
abbrev cX2_holds : ByteArray := prog_4_method_4_code
def yX2_holds : MethodName := ⟨RX2, "holds", "(I)Z"⟩
abbrev cX2_at : ByteArray := prog_4_method_5_code
def yX2_at : MethodName := ⟨RX2, "at", "(I)I"⟩
abbrev cX2_set : ByteArray := prog_4_method_6_code
def yX2_set : MethodName := ⟨RX2, "set", "(II)V"⟩
abbrev cX2_add : ByteArray := prog_4_method_7_code
def yX2_add : MethodName := ⟨RX2, "add", "(I)V"⟩
abbrev cX2_takeLast : ByteArray := prog_4_method_8_code
def yX2_takeLast : MethodName := ⟨RX2, "takeLast", "()I"⟩
abbrev cX2_dropFirst : ByteArray := prog_4_method_9_code
def yX2_dropFirst : MethodName := ⟨RX2, "dropFirst", "()V"⟩
abbrev cX2_drop : ByteArray := prog_4_method_10_code
def yX2_drop : MethodName := ⟨RX2, "drop", "()V"⟩
abbrev cX2_fill : ByteArray := prog_4_method_11_code
def yX2_fill : MethodName := ⟨RX2, "fill", "(II)V"⟩
abbrev cX2_copyFrom : ByteArray := prog_4_method_12_code
def yX2_copyFrom : MethodName := ⟨RX2, "copyFrom", "(LDrawerWall$Row;)V"⟩
def RX3 : String := "DrawerWall$Walk"
def TX3 : u_T := fun k => match k with
  | 0 => ("DrawerWall$Walk", "steps", "LDrawerWall$Row;", true)
  | 1 => ("DrawerWall$Walk", "far", "LDrawerWall$Row;", true)
  | 2 => ("DrawerWall$Walk", "ahead", "LDrawerWall$Row;", true)
  | 3 => ("DrawerWall$Walk", "by", "LDrawerWall$Row;", true)
  | 4 => ("DrawerWall$Walk", "found", "LDrawerWall$Row;", true)
  | 5 => ("DrawerWall$Walk", "isLearned", "Z", false)
  | 6 => ("DrawerWall$Walk", "drawers", "I", false)
  | 7 => ("DrawerWall$Walk", "states", "I", false)
  | 8 => ("DrawerWall$Walk", "tiedFrom", "I", false)
  | 9 => ("DrawerWall$Walk", "tiedTo", "I", false)
  | _ => ("DrawerWall$Walk", "tiedBy", "I", false)
def tyX3 : Nat → FieldType := fun k => match k with
  | 0 => .object "DrawerWall$Row"
  | 1 => .object "DrawerWall$Row"
  | 2 => .object "DrawerWall$Row"
  | 3 => .object "DrawerWall$Row"
  | 4 => .object "DrawerWall$Row"
  | 5 => .boolean
  | 6 => .int
  | 7 => .int
  | 8 => .int
  | 9 => .int
  | _ => .int
abbrev wsX30 : List Cond := u_ws RX3 TX3 11
theorem nmX3 : ∀ a, a < 11 → ∀ b, b < 11 → a ≠ b → (TX3 a).2.1 ≠ (TX3 b).2.1 := by decide +kernel
theorem tyX3_ok : ∀ k, k < 11 → parseFieldDescriptor (TX3 k).2.2.1 = some (tyX3 k) := by decide +kernel
abbrev cX3_init : ByteArray := prog_5_method_1_code
def yX3_init : MethodName := ⟨RX3, "<init>", "()V"⟩
abbrev cX3_learn : ByteArray := prog_5_method_2_code
def yX3_learn : MethodName := ⟨RX3, "learn", "(LDrawerWall$Wall;)V"⟩
abbrev cX3_forget : ByteArray := prog_5_method_3_code
def yX3_forget : MethodName := ⟨RX3, "forget", "()V"⟩
abbrev cX3_learnDrawer : ByteArray := prog_5_method_4_code
def yX3_learnDrawer : MethodName := ⟨RX3, "learnDrawer", "(LDrawerWall$Wall;II)V"⟩
abbrev cX3_tied : ByteArray := prog_5_method_5_code
def yX3_tied : MethodName := ⟨RX3, "tied", "(III)V"⟩
abbrev cX3_step : ByteArray := prog_5_method_6_code
def yX3_step : MethodName := ⟨RX3, "step", "(II)I"⟩
abbrev cX3_begin : ByteArray := prog_5_method_7_code
def yX3_begin : MethodName := ⟨RX3, "begin", "()V"⟩
abbrev cX3_barDangers : ByteArray := prog_5_method_8_code
def yX3_barDangers : MethodName := ⟨RX3, "barDangers", "(LDrawerWall$Wall;)V"⟩
abbrev cX3_spread : ByteArray := prog_5_method_9_code
def yX3_spread : MethodName := ⟨RX3, "spread", "(I)V"⟩
abbrev cX3_grow : ByteArray := prog_5_method_10_code
def yX3_grow : MethodName := ⟨RX3, "grow", "(I)V"⟩
abbrev cX3_meet : ByteArray := prog_5_method_11_code
def yX3_meet : MethodName := ⟨RX3, "meet", "(III)V"⟩
abbrev cX3_firstWith : ByteArray := prog_5_method_12_code
def yX3_firstWith : MethodName := ⟨RX3, "firstWith", "(III)I"⟩
abbrev cX3_nearestOpen : ByteArray := prog_5_method_13_code
def yX3_nearestOpen : MethodName := ⟨RX3, "nearestOpen", "(II)I"⟩
abbrev cX3_pulledAt : ByteArray := prog_5_method_14_code
def yX3_pulledAt : MethodName := ⟨RX3, "pulledAt", "(II)I"⟩
abbrev cX3_everOpen : ByteArray := prog_5_method_15_code
def yX3_everOpen : MethodName := ⟨RX3, "everOpen", "()I"⟩
abbrev cX3_isJam : ByteArray := prog_5_method_16_code
def yX3_isJam : MethodName := ⟨RX3, "isJam", "(I)Z"⟩
abbrev cX3_jams : ByteArray := prog_5_method_17_code
def yX3_jams : MethodName := ⟨RX3, "jams", "()I"⟩
abbrev cX3_leastJam : ByteArray := prog_5_method_18_code
def yX3_leastJam : MethodName := ⟨RX3, "leastJam", "()I"⟩
def RX4 : String := "DrawerWall$Wall"
def TX4 : u_T := fun k => match k with
  | 0 => ("DrawerWall$Wall", "drawers", "I", false)
  | 1 => ("DrawerWall$Wall", "now", "I", false)
  | 2 => ("DrawerWall$Wall", "catches", "I", false)
  | 3 => ("DrawerWall$Wall", "poison", "I", false)
  | 4 => ("DrawerWall$Wall", "food", "I", false)
  | 5 => ("DrawerWall$Wall", "goods", "LDrawerWall$Row;", true)
  | 6 => ("DrawerWall$Wall", "cordFrom", "LDrawerWall$Row;", true)
  | 7 => ("DrawerWall$Wall", "cordTo", "LDrawerWall$Row;", true)
  | 8 => ("DrawerWall$Wall", "cordKind", "LDrawerWall$Row;", true)
  | 9 => ("DrawerWall$Wall", "cordBy", "LDrawerWall$Row;", true)
  | 10 => ("DrawerWall$Wall", "orders", "LDrawerWall$Row;", true)
  | 11 => ("DrawerWall$Wall", "sightDrawers", "LDrawerWall$Row;", true)
  | 12 => ("DrawerWall$Wall", "sightStates", "LDrawerWall$Row;", true)
  | _ => ("DrawerWall$Wall", "past", "LDrawerWall$Row;", true)
def tyX4 : Nat → FieldType := fun k => match k with
  | 0 => .int
  | 1 => .int
  | 2 => .int
  | 3 => .int
  | 4 => .int
  | 5 => .object "DrawerWall$Row"
  | 6 => .object "DrawerWall$Row"
  | 7 => .object "DrawerWall$Row"
  | 8 => .object "DrawerWall$Row"
  | 9 => .object "DrawerWall$Row"
  | 10 => .object "DrawerWall$Row"
  | 11 => .object "DrawerWall$Row"
  | 12 => .object "DrawerWall$Row"
  | _ => .object "DrawerWall$Row"
abbrev wsX40 : List Cond := u_ws RX4 TX4 14
theorem nmX4 : ∀ a, a < 14 → ∀ b, b < 14 → a ≠ b → (TX4 a).2.1 ≠ (TX4 b).2.1 := by decide +kernel
theorem tyX4_ok : ∀ k, k < 14 → parseFieldDescriptor (TX4 k).2.2.1 = some (tyX4 k) := by decide +kernel
abbrev cX4_init : ByteArray := prog_6_method_1_code
def yX4_init : MethodName := ⟨RX4, "<init>", "()V"⟩
abbrev cX4_tellDrawers : ByteArray := prog_6_method_2_code
def yX4_tellDrawers : MethodName := ⟨RX4, "tellDrawers", "(I)I"⟩
abbrev cX4_tellCord : ByteArray := prog_6_method_3_code
def yX4_tellCord : MethodName := ⟨RX4, "tellCord", "(IIII)I"⟩
abbrev cX4_tellCatch : ByteArray := prog_6_method_4_code
def yX4_tellCatch : MethodName := ⟨RX4, "tellCatch", "(IZ)I"⟩
abbrev cX4_tellGoods : ByteArray := prog_6_method_5_code
def yX4_tellGoods : MethodName := ⟨RX4, "tellGoods", "(II)I"⟩
abbrev cX4_tellOrder : ByteArray := prog_6_method_6_code
def yX4_tellOrder : MethodName := ⟨RX4, "tellOrder", "(I)I"⟩
abbrev cX4_copyFrom : ByteArray := prog_6_method_7_code
def yX4_copyFrom : MethodName := ⟨RX4, "copyFrom", "(LDrawerWall$Wall;)V"⟩
abbrev cX4_states : ByteArray := prog_6_method_8_code
def yX4_states : MethodName := ⟨RX4, "states", "()I"⟩
abbrev cX4_hasDrawer : ByteArray := prog_6_method_9_code
def yX4_hasDrawer : MethodName := ⟨RX4, "hasDrawer", "(I)Z"⟩
abbrev cX4_hasState : ByteArray := prog_6_method_10_code
def yX4_hasState : MethodName := ⟨RX4, "hasState", "(I)Z"⟩
abbrev cX4_hasSet : ByteArray := prog_6_method_11_code
def yX4_hasSet : MethodName := ⟨RX4, "hasSet", "(I)Z"⟩
abbrev cX4_hasCatch : ByteArray := prog_6_method_12_code
def yX4_hasCatch : MethodName := ⟨RX4, "hasCatch", "(I)Z"⟩
abbrev cX4_remember : ByteArray := prog_6_method_13_code
def yX4_remember : MethodName := ⟨RX4, "remember", "()V"⟩
abbrev cX4_after : ByteArray := prog_6_method_14_code
def yX4_after : MethodName := ⟨RX4, "after", "(III)I"⟩
abbrev cX4_amountOf : ByteArray := prog_6_method_15_code
def yX4_amountOf : MethodName := ⟨RX4, "amountOf", "(IIZ)I"⟩
abbrev cX4_drawersHolding : ByteArray := prog_6_method_16_code
def yX4_drawersHolding : MethodName := ⟨RX4, "drawersHolding", "(I)I"⟩
abbrev cX4_isDanger : ByteArray := prog_6_method_17_code
def yX4_isDanger : MethodName := ⟨RX4, "isDanger", "(I)Z"⟩
abbrev cX4_areSightsSo : ByteArray := prog_6_method_18_code
def yX4_areSightsSo : MethodName := ⟨RX4, "areSightsSo", "(I)Z"⟩
def RX5 : String := "DrawerWall"
def TX5 : u_T := fun k => match k with
  | 0 => ("DrawerWall", "wall", "LDrawerWall$Wall;", true)
  | 1 => ("DrawerWall", "draft", "LDrawerWall$Wall;", true)
  | 2 => ("DrawerWall", "imageZero", "LDrawerWall$Wall;", true)
  | 3 => ("DrawerWall", "imageOne", "LDrawerWall$Wall;", true)
  | 4 => ("DrawerWall", "isZeroKept", "Z", false)
  | 5 => ("DrawerWall", "isOneKept", "Z", false)
  | 6 => ("DrawerWall", "text", "LDrawerWall$Row;", true)
  | 7 => ("DrawerWall", "reader", "LDrawerWall$Reader;", true)
  | 8 => ("DrawerWall", "walk", "LDrawerWall$Walk;", true)
  | 9 => ("DrawerWall", "today", "LDrawerWall$Day;", true)
  | 10 => ("DrawerWall", "other", "LDrawerWall$Day;", true)
  | 11 => ("DrawerWall", "witnesses", "LDrawerWall$Row;", true)
  | 12 => ("DrawerWall", "refusedBad", "I", false)
  | 13 => ("DrawerWall", "refusedNo", "I", false)
  | _ => ("DrawerWall", "refusedFull", "I", false)
def tyX5 : Nat → FieldType := fun k => match k with
  | 0 => .object "DrawerWall$Wall"
  | 1 => .object "DrawerWall$Wall"
  | 2 => .object "DrawerWall$Wall"
  | 3 => .object "DrawerWall$Wall"
  | 4 => .boolean
  | 5 => .boolean
  | 6 => .object "DrawerWall$Row"
  | 7 => .object "DrawerWall$Reader"
  | 8 => .object "DrawerWall$Walk"
  | 9 => .object "DrawerWall$Day"
  | 10 => .object "DrawerWall$Day"
  | 11 => .object "DrawerWall$Row"
  | 12 => .int
  | 13 => .int
  | _ => .int
abbrev wsX50 : List Cond := u_ws RX5 TX5 15
theorem nmX5 : ∀ a, a < 15 → ∀ b, b < 15 → a ≠ b → (TX5 a).2.1 ≠ (TX5 b).2.1 := by decide +kernel
theorem tyX5_ok : ∀ k, k < 15 → parseFieldDescriptor (TX5 k).2.2.1 = some (tyX5 k) := by decide +kernel
abbrev cX5_init : ByteArray := prog_1_method_1_code
def yX5_init : MethodName := ⟨RX5, "<init>", "()V"⟩
abbrev cX5_wall : ByteArray := prog_1_method_2_code
def yX5_wall : MethodName := ⟨RX5, "wall", "(I)I"⟩
abbrev cX5_cord : ByteArray := prog_1_method_3_code
def yX5_cord : MethodName := ⟨RX5, "cord", "(IIII)I"⟩
abbrev cX5_caught : ByteArray := prog_1_method_4_code
def yX5_caught : MethodName := ⟨RX5, "caught", "(IZ)I"⟩
abbrev cX5_good : ByteArray := prog_1_method_5_code
def yX5_good : MethodName := ⟨RX5, "good", "(II)I"⟩
abbrev cX5_put : ByteArray := prog_1_method_6_code
def yX5_put : MethodName := ⟨RX5, "put", "(II)I"⟩
abbrev cX5_order : ByteArray := prog_1_method_7_code
def yX5_order : MethodName := ⟨RX5, "order", "(I)I"⟩
abbrev cX5_type : ByteArray := prog_1_method_8_code
def yX5_type : MethodName := ⟨RX5, "type", "(JI)I"⟩
abbrev cX5_clear : ByteArray := prog_1_method_9_code
def yX5_clear : MethodName := ⟨RX5, "clear", "()I"⟩
abbrev cX5_read : ByteArray := prog_1_method_10_code
def yX5_read : MethodName := ⟨RX5, "read", "()I"⟩
abbrev cX5_pull : ByteArray := prog_1_method_11_code
def yX5_pull : MethodName := ⟨RX5, "pull", "(I)I"⟩
abbrev cX5_undo : ByteArray := prog_1_method_12_code
def yX5_undo : MethodName := ⟨RX5, "undo", "()I"⟩
abbrev cX5_behind : ByteArray := prog_1_method_13_code
def yX5_behind : MethodName := ⟨RX5, "behind", "(II)I"⟩
abbrev cX5_out : ByteArray := prog_1_method_14_code
def yX5_out : MethodName := ⟨RX5, "out", "(I)I"⟩
abbrev cX5_pulls : ByteArray := prog_1_method_15_code
def yX5_pulls : MethodName := ⟨RX5, "pulls", "(III)I"⟩
abbrev cX5_safe : ByteArray := prog_1_method_16_code
def yX5_safe : MethodName := ⟨RX5, "safe", "(III)I"⟩
abbrev cX5_reach : ByteArray := prog_1_method_17_code
def yX5_reach : MethodName := ⟨RX5, "reach", "(I)I"⟩
abbrev cX5_kept : ByteArray := prog_1_method_18_code
def yX5_kept : MethodName := ⟨RX5, "kept", "()I"⟩
abbrev cX5_cut : ByteArray := prog_1_method_19_code
def yX5_cut : MethodName := ⟨RX5, "cut", "()I"⟩
abbrev cX5_tie : ByteArray := prog_1_method_20_code
def yX5_tie : MethodName := ⟨RX5, "tie", "()I"⟩
abbrev cX5_day : ByteArray := prog_1_method_21_code
def yX5_day : MethodName := ⟨RX5, "day", "(I)I"⟩
abbrev cX5_laid : ByteArray := prog_1_method_22_code
def yX5_laid : MethodName := ⟨RX5, "laid", "()I"⟩
abbrev cX5_danger : ByteArray := prog_1_method_23_code
def yX5_danger : MethodName := ⟨RX5, "danger", "(I)I"⟩
abbrev cX5_sight : ByteArray := prog_1_method_24_code
def yX5_sight : MethodName := ⟨RX5, "sight", "(II)I"⟩
abbrev cX5_none : ByteArray := prog_1_method_25_code
def yX5_none : MethodName := ⟨RX5, "none", "(I)I"⟩
abbrev cX5_fits : ByteArray := prog_1_method_26_code
def yX5_fits : MethodName := ⟨RX5, "fits", "(I)I"⟩
abbrev cX5_image : ByteArray := prog_1_method_27_code
def yX5_image : MethodName := ⟨RX5, "image", "(I)I"⟩
abbrev cX5_from : ByteArray := prog_1_method_28_code
def yX5_from : MethodName := ⟨RX5, "from", "(I)I"⟩
abbrev cX5_status : ByteArray := prog_1_method_29_code
def yX5_status : MethodName := ⟨RX5, "status", "(I)I"⟩
abbrev cX5_count : ByteArray := prog_1_method_30_code
def yX5_count : MethodName := ⟨RX5, "count", "(I)I"⟩
abbrev cX5_digest : ByteArray := prog_1_method_31_code
def yX5_digest : MethodName := ⟨RX5, "digest", "()J"⟩
abbrev cX5_counted : ByteArray := prog_1_method_32_code
def yX5_counted : MethodName := ⟨RX5, "counted", "(I)I"⟩
abbrev cX5_countOf : ByteArray := prog_1_method_33_code
def yX5_countOf : MethodName := ⟨RX5, "countOf", "(I)I"⟩
abbrev cX5_imageAt : ByteArray := prog_1_method_34_code
def yX5_imageAt : MethodName := ⟨RX5, "imageAt", "(I)LDrawerWall$Wall;"⟩
abbrev cX5_walkFromNow : ByteArray := prog_1_method_35_code
def yX5_walkFromNow : MethodName := ⟨RX5, "walkFromNow", "()I"⟩
abbrev cX5_openableWith : ByteArray := prog_1_method_36_code
def yX5_openableWith : MethodName := ⟨RX5, "openableWith", "(III)I"⟩
abbrev cX5_pullOf : ByteArray := prog_1_method_37_code
def yX5_pullOf : MethodName := ⟨RX5, "pullOf", "(IIIZ)I"⟩
abbrev cX5_isSumKept : ByteArray := prog_1_method_38_code
def yX5_isSumKept : MethodName := ⟨RX5, "isSumKept", "(I)Z"⟩
abbrev cX5_sumOf : ByteArray := prog_1_method_39_code
def yX5_sumOf : MethodName := ⟨RX5, "sumOf", "(II)I"⟩
abbrev cX5_power : ByteArray := prog_1_method_40_code
def yX5_power : MethodName := ⟨RX5, "power", "(I)I"⟩
abbrev cX5_outIn : ByteArray := prog_1_method_41_code
def yX5_outIn : MethodName := ⟨RX5, "outIn", "(II)I"⟩
abbrev cX5_moved : ByteArray := prog_1_method_42_code
def yX5_moved : MethodName := ⟨RX5, "moved", "(III)I"⟩
abbrev cX5_drawersOutBy : ByteArray := prog_1_method_43_code
def yX5_drawersOutBy : MethodName := ⟨RX5, "drawersOutBy", "(II)I"⟩
abbrev cX5_drawersBeside : ByteArray := prog_1_method_44_code
def yX5_drawersBeside : MethodName := ⟨RX5, "drawersBeside", "(I)I"⟩
abbrev cX5_isOpenBeside : ByteArray := prog_1_method_45_code
def yX5_isOpenBeside : MethodName := ⟨RX5, "isOpenBeside", "(II)Z"⟩
def RX6 : String := "DrawerWallModel"
def TX6 : u_T := fun k => match k with
  | 0 => ("DrawerWallModel", "book", "[I", true)
  | 1 => ("DrawerWallModel", "images", "[I", true)
  | 2 => ("DrawerWallModel", "kept", "[Z", true)
  | 3 => ("DrawerWallModel", "aside", "[I", true)
  | 4 => ("DrawerWallModel", "refused", "[I", true)
  | 5 => ("DrawerWallModel", "quiet", "Z", false)
  | 6 => ("DrawerWallModel", "text", "[I", true)
  | 7 => ("DrawerWallModel", "typed", "I", false)
  | 8 => ("DrawerWallModel", "at", "I", false)
  | 9 => ("DrawerWallModel", "start", "I", false)
  | 10 => ("DrawerWallModel", "token", "I", false)
  | 11 => ("DrawerWallModel", "value", "I", false)
  | 12 => ("DrawerWallModel", "items", "[I", true)
  | 13 => ("DrawerWallModel", "many", "I", false)
  | 14 => ("DrawerWallModel", "leads", "[I", true)
  | 15 => ("DrawerWallModel", "far", "[I", true)
  | 16 => ("DrawerWallModel", "there", "[Z", true)
  | 17 => ("DrawerWallModel", "queue", "[I", true)
  | 18 => ("DrawerWallModel", "found", "I", false)
  | _ => ("DrawerWallModel", "served", "I", false)
def tyX6 : Nat → FieldType := fun k => match k with
  | 0 => .array .int
  | 1 => .array .int
  | 2 => .array .boolean
  | 3 => .array .int
  | 4 => .array .int
  | 5 => .boolean
  | 6 => .array .int
  | 7 => .int
  | 8 => .int
  | 9 => .int
  | 10 => .int
  | 11 => .int
  | 12 => .array .int
  | 13 => .int
  | 14 => .array .int
  | 15 => .array .int
  | 16 => .array .boolean
  | 17 => .array .int
  | 18 => .int
  | _ => .int
abbrev wsX60 : List Cond := u_ws RX6 TX6 20
theorem nmX6 : ∀ a, a < 20 → ∀ b, b < 20 → a ≠ b → (TX6 a).2.1 ≠ (TX6 b).2.1 := by decide +kernel
theorem tyX6_ok : ∀ k, k < 20 → parseFieldDescriptor (TX6 k).2.2.1 = some (tyX6 k) := by decide +kernel
abbrev cX6_in : ByteArray := prog_8_method_2_code
def yX6_in : MethodName := ⟨RX6, "in", "(JJJ)Z"⟩
abbrev cX6_init : ByteArray := prog_8_method_3_code
def yX6_init : MethodName := ⟨RX6, "<init>", "()V"⟩
abbrev cX6_begins : ByteArray := prog_8_method_4_code
def yX6_begins : MethodName := ⟨RX6, "begins", "(I)V"⟩
abbrev cX6_refuses : ByteArray := prog_8_method_5_code
def yX6_refuses : MethodName := ⟨RX6, "refuses", "(II)I"⟩
abbrev cX6_bad : ByteArray := prog_8_method_6_code
def yX6_bad : MethodName := ⟨RX6, "bad", "()I"⟩
abbrev cX6_no : ByteArray := prog_8_method_7_code
def yX6_no : MethodName := ⟨RX6, "no", "()I"⟩
abbrev cX6_full : ByteArray := prog_8_method_8_code
def yX6_full : MethodName := ⟨RX6, "full", "()I"⟩
abbrev cX6_isDrawer : ByteArray := prog_8_method_9_code
def yX6_isDrawer : MethodName := ⟨RX6, "isDrawer", "(I)Z"⟩
abbrev cX6_power : ByteArray := prog_8_method_10_code
def yX6_power : MethodName := ⟨RX6, "power", "(I)I"⟩
abbrev cX6_states : ByteArray := prog_8_method_11_code
def yX6_states : MethodName := ⟨RX6, "states", "()I"⟩
abbrev cX6_outIn : ByteArray := prog_8_method_12_code
def yX6_outIn : MethodName := ⟨RX6, "outIn", "(II)I"⟩
abbrev cX6_isBeside : ByteArray := prog_8_method_13_code
def yX6_isBeside : MethodName := ⟨RX6, "isBeside", "(II)Z"⟩
abbrev cX6_amount : ByteArray := prog_8_method_14_code
def yX6_amount : MethodName := ⟨RX6, "amount", "(IIZ)I"⟩
abbrev cX6_pulled : ByteArray := prog_8_method_15_code
def yX6_pulled : MethodName := ⟨RX6, "pulled", "(III)I"⟩
abbrev cX6_allCords : ByteArray := prog_8_method_16_code
def yX6_allCords : MethodName := ⟨RX6, "allCords", "()I"⟩
abbrev cX6_wall : ByteArray := prog_8_method_17_code
def yX6_wall : MethodName := ⟨RX6, "wall", "(I)I"⟩
abbrev cX6_ties : ByteArray := prog_8_method_18_code
def yX6_ties : MethodName := ⟨RX6, "ties", "(IIII)V"⟩
abbrev cX6_cord : ByteArray := prog_8_method_19_code
def yX6_cord : MethodName := ⟨RX6, "cord", "(IIII)I"⟩
abbrev cX6_caught : ByteArray := prog_8_method_20_code
def yX6_caught : MethodName := ⟨RX6, "caught", "(IZ)I"⟩
abbrev cX6_good : ByteArray := prog_8_method_21_code
def yX6_good : MethodName := ⟨RX6, "good", "(II)I"⟩
abbrev cX6_put : ByteArray := prog_8_method_22_code
def yX6_put : MethodName := ⟨RX6, "put", "(II)I"⟩
abbrev cX6_order : ByteArray := prog_8_method_23_code
def yX6_order : MethodName := ⟨RX6, "order", "(I)I"⟩
abbrev cX6_type : ByteArray := prog_8_method_24_code
def yX6_type : MethodName := ⟨RX6, "type", "(JI)I"⟩
abbrev cX6_clear : ByteArray := prog_8_method_25_code
def yX6_clear : MethodName := ⟨RX6, "clear", "()I"⟩
abbrev cX6_isAt : ByteArray := prog_8_method_26_code
def yX6_isAt : MethodName := ⟨RX6, "isAt", "(II)Z"⟩
abbrev cX6_verbOf : ByteArray := prog_8_method_27_code
def yX6_verbOf : MethodName := ⟨RX6, "verbOf", "(J)I"⟩
abbrev cX6_scans : ByteArray := prog_8_method_28_code
def yX6_scans : MethodName := ⟨RX6, "scans", "()V"⟩
abbrev cX6_reads : ByteArray := prog_8_method_29_code
def yX6_reads : MethodName := ⟨RX6, "reads", "()Z"⟩
abbrev cX6_tellsItem : ByteArray := prog_8_method_30_code
def yX6_tellsItem : MethodName := ⟨RX6, "tellsItem", "(I)Z"⟩
abbrev cX6_read : ByteArray := prog_8_method_31_code
def yX6_read : MethodName := ⟨RX6, "read", "()I"⟩
abbrev cX6_pull : ByteArray := prog_8_method_32_code
def yX6_pull : MethodName := ⟨RX6, "pull", "(I)I"⟩
abbrev cX6_undo : ByteArray := prog_8_method_33_code
def yX6_undo : MethodName := ⟨RX6, "undo", "()I"⟩
abbrev cX6_isState : ByteArray := prog_8_method_34_code
def yX6_isState : MethodName := ⟨RX6, "isState", "(I)Z"⟩
abbrev cX6_behind : ByteArray := prog_8_method_35_code
def yX6_behind : MethodName := ⟨RX6, "behind", "(II)I"⟩
abbrev cX6_out : ByteArray := prog_8_method_36_code
def yX6_out : MethodName := ⟨RX6, "out", "(I)I"⟩
abbrev cX6_lays : ByteArray := prog_8_method_37_code
def yX6_lays : MethodName := ⟨RX6, "lays", "()V"⟩
abbrev cX6_isDanger : ByteArray := prog_8_method_38_code
def yX6_isDanger : MethodName := ⟨RX6, "isDanger", "(I)Z"⟩
abbrev cX6_isEnd : ByteArray := prog_8_method_39_code
def yX6_isEnd : MethodName := ⟨RX6, "isEnd", "(III)Z"⟩
abbrev cX6_reckons : ByteArray := prog_8_method_40_code
def yX6_reckons : MethodName := ⟨RX6, "reckons", "(IIZ)V"⟩
abbrev cX6_next : ByteArray := prog_8_method_41_code
def yX6_next : MethodName := ⟨RX6, "next", "(I)I"⟩
abbrev cX6_rows : ByteArray := prog_8_method_42_code
def yX6_rows : MethodName := ⟨RX6, "rows", "(IIIZ)I"⟩
abbrev cX6_pulls : ByteArray := prog_8_method_43_code
def yX6_pulls : MethodName := ⟨RX6, "pulls", "(III)I"⟩
abbrev cX6_safe : ByteArray := prog_8_method_44_code
def yX6_safe : MethodName := ⟨RX6, "safe", "(III)I"⟩
abbrev cX6_goes : ByteArray := prog_8_method_45_code
def yX6_goes : MethodName := ⟨RX6, "goes", "(I)V"⟩
abbrev cX6_reach : ByteArray := prog_8_method_46_code
def yX6_reach : MethodName := ⟨RX6, "reach", "(I)I"⟩
abbrev cX6_sumBy : ByteArray := prog_8_method_47_code
def yX6_sumBy : MethodName := ⟨RX6, "sumBy", "(II)I"⟩
abbrev cX6_kept : ByteArray := prog_8_method_48_code
def yX6_kept : MethodName := ⟨RX6, "kept", "()I"⟩
abbrev cX6_cut : ByteArray := prog_8_method_49_code
def yX6_cut : MethodName := ⟨RX6, "cut", "()I"⟩
abbrev cX6_opens : ByteArray := prog_8_method_50_code
def yX6_opens : MethodName := ⟨RX6, "opens", "()I"⟩
abbrev cX6_tie : ByteArray := prog_8_method_51_code
def yX6_tie : MethodName := ⟨RX6, "tie", "()I"⟩
abbrev cX6_days : ByteArray := prog_8_method_52_code
def yX6_days : MethodName := ⟨RX6, "days", "()I"⟩
abbrev cX6_day : ByteArray := prog_8_method_53_code
def yX6_day : MethodName := ⟨RX6, "day", "(I)I"⟩
abbrev cX6_swaps : ByteArray := prog_8_method_54_code
def yX6_swaps : MethodName := ⟨RX6, "swaps", "(II)V"⟩
abbrev cX6_laid : ByteArray := prog_8_method_55_code
def yX6_laid : MethodName := ⟨RX6, "laid", "()I"⟩
abbrev cX6_danger : ByteArray := prog_8_method_56_code
def yX6_danger : MethodName := ⟨RX6, "danger", "(I)I"⟩
abbrev cX6_sight : ByteArray := prog_8_method_57_code
def yX6_sight : MethodName := ⟨RX6, "sight", "(II)I"⟩
abbrev cX6_none : ByteArray := prog_8_method_58_code
def yX6_none : MethodName := ⟨RX6, "none", "(I)I"⟩
abbrev cX6_fits : ByteArray := prog_8_method_59_code
def yX6_fits : MethodName := ⟨RX6, "fits", "(I)I"⟩
abbrev cX6_image : ByteArray := prog_8_method_60_code
def yX6_image : MethodName := ⟨RX6, "image", "(I)I"⟩
abbrev cX6_from : ByteArray := prog_8_method_61_code
def yX6_from : MethodName := ⟨RX6, "from", "(I)I"⟩
abbrev cX6_status : ByteArray := prog_8_method_62_code
def yX6_status : MethodName := ⟨RX6, "status", "(I)I"⟩
abbrev cX6_countOf : ByteArray := prog_8_method_63_code
def yX6_countOf : MethodName := ⟨RX6, "countOf", "(I)I"⟩
abbrev cX6_count : ByteArray := prog_8_method_64_code
def yX6_count : MethodName := ⟨RX6, "count", "(I)I"⟩
abbrev cX6_mixed : ByteArray := prog_8_method_65_code
def yX6_mixed : MethodName := ⟨RX6, "mixed", "(JII)J"⟩
abbrev cX6_digest : ByteArray := prog_8_method_66_code
def yX6_digest : MethodName := ⟨RX6, "digest", "()J"⟩
def RJ6 : String := "java/lang/Integer"
def TJ6 : u_T := fun k => match k with
  | _ => ("", "", "", false)
def tyJ6 : Nat → FieldType := fun k => match k with
  | _ => .int
abbrev wsJ60 : List Cond := u_ws RJ6 TJ6 0
theorem nmJ6 : ∀ a, a < 0 → ∀ b, b < 0 → a ≠ b → (TJ6 a).2.1 ≠ (TJ6 b).2.1 := by decide +kernel
theorem tyJ6_ok : ∀ k, k < 0 → parseFieldDescriptor (TJ6 k).2.2.1 = some (tyJ6 k) := by decide +kernel
abbrev cJ6_numberOfTrailingZeros_0f7a4 : ByteArray := prog_9_method_48_code
def yJ6_numberOfTrailingZeros_0f7a4 : MethodName := ⟨RJ6, "numberOfTrailingZeros", "(I)I"⟩
abbrev cJ6_bitCount_0f7a4 : ByteArray := prog_9_method_49_code
def yJ6_bitCount_0f7a4 : MethodName := ⟨RJ6, "bitCount", "(I)I"⟩
def RJ9 : String := "java/lang/Math"
def TJ9 : u_T := fun k => match k with
  | _ => ("", "", "", false)
def tyJ9 : Nat → FieldType := fun k => match k with
  | _ => .int
abbrev wsJ90 : List Cond := u_ws RJ9 TJ9 0
theorem nmJ9 : ∀ a, a < 0 → ∀ b, b < 0 → a ≠ b → (TJ9 a).2.1 ≠ (TJ9 b).2.1 := by decide +kernel
theorem tyJ9_ok : ∀ k, k < 0 → parseFieldDescriptor (TJ9 k).2.2.1 = some (tyJ9 k) := by decide +kernel
abbrev cJ9_max_7cf53 : ByteArray := prog_10_method_65_code
def yJ9_max_7cf53 : MethodName := ⟨RJ9, "max", "(II)I"⟩
abbrev cJ9_min_7cf53 : ByteArray := prog_10_method_69_code
def yJ9_min_7cf53 : MethodName := ⟨RJ9, "min", "(II)I"⟩
def RJ0 : String := "java/lang/String"
def TJ0 : u_T := fun k => match k with
  | _ => ("", "", "", false)
def tyJ0 : Nat → FieldType := fun k => match k with
  | _ => .int
abbrev wsJ00 : List Cond := u_ws RJ0 TJ0 0
theorem nmJ0 : ∀ a, a < 0 → ∀ b, b < 0 → a ≠ b → (TJ0 a).2.1 ≠ (TJ0 b).2.1 := by decide +kernel
theorem tyJ0_ok : ∀ k, k < 0 → parseFieldDescriptor (TJ0 k).2.2.1 = some (tyJ0 k) := by decide +kernel
abbrev cJ0_length_8abf5 : ByteArray := prog_11_method_54_code
def yJ0_length_8abf5 : MethodName := ⟨RJ0, "length", "()I"⟩
abbrev cJ0_charAt_5068e : ByteArray := prog_11_method_56_code
def yJ0_charAt_5068e : MethodName := ⟨RJ0, "charAt", "(I)C"⟩
abbrev cJ0_coder_7d493 : ByteArray := prog_11_method_152_code
def yJ0_coder_7d493 : MethodName := ⟨RJ0, "coder", "()B"⟩
abbrev cJ0_isLatin1_aae02 : ByteArray := prog_11_method_154_code
def yJ0_isLatin1_aae02 : MethodName := ⟨RJ0, "isLatin1", "()Z"⟩
abbrev cJ0_checkIndex_df160 : ByteArray := prog_11_method_155_code
def yJ0_checkIndex_df160 : MethodName := ⟨RJ0, "checkIndex", "(II)V"⟩
def RJ1 : String := "java/lang/StringLatin1"
def TJ1 : u_T := fun k => match k with
  | _ => ("", "", "", false)
def tyJ1 : Nat → FieldType := fun k => match k with
  | _ => .int
abbrev wsJ10 : List Cond := u_ws RJ1 TJ1 0
theorem nmJ1 : ∀ a, a < 0 → ∀ b, b < 0 → a ≠ b → (TJ1 a).2.1 ≠ (TJ1 b).2.1 := by decide +kernel
theorem tyJ1_ok : ∀ k, k < 0 → parseFieldDescriptor (TJ1 k).2.2.1 = some (tyJ1 k) := by decide +kernel
abbrev cJ1_charAt_3b067 : ByteArray := prog_12_method_2_code
def yJ1_charAt_3b067 : MethodName := ⟨RJ1, "charAt", "([BI)C"⟩
def RJ2 : String := "java/lang/StringUTF16"
def TJ2 : u_T := fun k => match k with
  | _ => ("", "", "", false)
def tyJ2 : Nat → FieldType := fun k => match k with
  | _ => .int
abbrev wsJ20 : List Cond := u_ws RJ2 TJ2 0
theorem nmJ2 : ∀ a, a < 0 → ∀ b, b < 0 → a ≠ b → (TJ2 a).2.1 ≠ (TJ2 b).2.1 := by decide +kernel
theorem tyJ2_ok : ∀ k, k < 0 → parseFieldDescriptor (TJ2 k).2.2.1 = some (tyJ2 k) := by decide +kernel
abbrev cJ2_getChar_3b067 : ByteArray := prog_13_method_5_code
def yJ2_getChar_3b067 : MethodName := ⟨RJ2, "getChar", "([BI)C"⟩
abbrev cJ2_length_9d52b : ByteArray := prog_13_method_6_code
def yJ2_length_9d52b : MethodName := ⟨RJ2, "length", "([B)I"⟩
abbrev cJ2_charAt_3b067 : ByteArray := prog_13_method_83_code
def yJ2_charAt_3b067 : MethodName := ⟨RJ2, "charAt", "([BI)C"⟩
abbrev cJ2_checkIndex_2214a : ByteArray := prog_13_method_91_code
def yJ2_checkIndex_2214a : MethodName := ⟨RJ2, "checkIndex", "(I[B)V"⟩
def RJ3 : String := "jdk/internal/util/Preconditions"
def TJ3 : u_T := fun k => match k with
  | _ => ("", "", "", false)
def tyJ3 : Nat → FieldType := fun k => match k with
  | _ => .int
abbrev wsJ30 : List Cond := u_ws RJ3 TJ3 0
theorem nmJ3 : ∀ a, a < 0 → ∀ b, b < 0 → a ≠ b → (TJ3 a).2.1 ≠ (TJ3 b).2.1 := by decide +kernel
theorem tyJ3_ok : ∀ k, k < 0 → parseFieldDescriptor (TJ3 k).2.2.1 = some (tyJ3 k) := by decide +kernel
abbrev cJ3_checkIndex_8e157 : ByteArray := prog_14_method_11_code
def yJ3_checkIndex_8e157 : MethodName := ⟨RJ3, "checkIndex", "(IILjava/util/function/BiFunction;)I"⟩
def RL : String := "DrawerWallLaw"
abbrev cL_law : ByteArray := code
def yL_law : MethodName := ⟨RL, "law", "([I)Z"⟩
abbrev vwCl : List vw_C := [(RX0, TX0, 2), (RX1, TX1, 5), (RX2, TX2, 2), (RX3, TX3, 11), (RX4, TX4, 14), (RX5, TX5, 15), (RX6, TX6, 20)]
