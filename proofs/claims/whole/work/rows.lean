section
-- ===== PART A: goes FIRST, ahead of the names: the tables' words, and 'selects' of the private methods out of them =====
/-- a private method of a class that the tables say can be made, by its rows of tables_1 -/
def lw_okq (q : MethodName × Nat) : Prop := (q.1.cls ≠ "java/lang/invoke/MethodHandle" ∧ q.1.cls ≠ "java/lang/invoke/VarHandle") ∧ Cond.instantiable q.1.cls q.2 ∈ tables_1 ∧ Cond.privateMethod q.1 ∈ tables_1 ∧ Cond.instanceMethod q.1 ∈ tables_1
theorem lw_p0 : lw_okq (⟨"DrawerWall", "told", "(I)I"⟩, 15) := ⟨⟨by decide +kernel, by decide +kernel⟩, List.mem_of_getElem? (i := 15) (by decide +kernel), List.mem_of_getElem? (i := 264) (by decide +kernel), List.mem_of_getElem? (i := 265) (by decide +kernel)⟩
theorem lw_p1 : lw_okq (⟨"DrawerWall$Reader", "scan", "()V"⟩, 5) := ⟨⟨by decide +kernel, by decide +kernel⟩, List.mem_of_getElem? (i := 118) (by decide +kernel), List.mem_of_getElem? (i := 355) (by decide +kernel), List.mem_of_getElem? (i := 356) (by decide +kernel)⟩
theorem lw_p2 : lw_okq (⟨"DrawerWall$Reader", "wordHere", "()I"⟩, 5) := ⟨⟨by decide +kernel, by decide +kernel⟩, List.mem_of_getElem? (i := 118) (by decide +kernel), List.mem_of_getElem? (i := 367) (by decide +kernel), List.mem_of_getElem? (i := 368) (by decide +kernel)⟩
theorem lw_p3 : lw_okq (⟨"DrawerWall$Reader", "isHere", "(Ljava/lang/String;)Z"⟩, 5) := ⟨⟨by decide +kernel, by decide +kernel⟩, List.mem_of_getElem? (i := 118) (by decide +kernel), List.mem_of_getElem? (i := 372) (by decide +kernel), List.mem_of_getElem? (i := 373) (by decide +kernel)⟩
theorem lw_p4 : lw_okq (⟨"DrawerWall$Reader", "numberHere", "()I"⟩, 5) := ⟨⟨by decide +kernel, by decide +kernel⟩, List.mem_of_getElem? (i := 118) (by decide +kernel), List.mem_of_getElem? (i := 431) (by decide +kernel), List.mem_of_getElem? (i := 432) (by decide +kernel)⟩
theorem lw_p5 : lw_okq (⟨"DrawerWall$Reader", "takeItem", "(I)Z"⟩, 5) := ⟨⟨by decide +kernel, by decide +kernel⟩, List.mem_of_getElem? (i := 118) (by decide +kernel), List.mem_of_getElem? (i := 439) (by decide +kernel), List.mem_of_getElem? (i := 440) (by decide +kernel)⟩
theorem lw_p6 : lw_okq (⟨"DrawerWall$Reader", "tell", "(LDrawerWall$Wall;I)I"⟩, 5) := ⟨⟨by decide +kernel, by decide +kernel⟩, List.mem_of_getElem? (i := 118) (by decide +kernel), List.mem_of_getElem? (i := 451) (by decide +kernel), List.mem_of_getElem? (i := 452) (by decide +kernel)⟩
theorem lw_p7 : lw_okq (⟨"DrawerWall$Wall", "amount", "(IIZ)I"⟩, 14) := ⟨⟨by decide +kernel, by decide +kernel⟩, List.mem_of_getElem? (i := 23) (by decide +kernel), List.mem_of_getElem? (i := 506) (by decide +kernel), List.mem_of_getElem? (i := 507) (by decide +kernel)⟩
theorem lw_p8 : lw_okq (⟨"DrawerWall", "pullOf", "(IIIZ)I"⟩, 15) := ⟨⟨by decide +kernel, by decide +kernel⟩, List.mem_of_getElem? (i := 15) (by decide +kernel), List.mem_of_getElem? (i := 548) (by decide +kernel), List.mem_of_getElem? (i := 549) (by decide +kernel)⟩
theorem lw_p9 : lw_okq (⟨"DrawerWall$Walk", "meet", "(III)V"⟩, 11) := ⟨⟨by decide +kernel, by decide +kernel⟩, List.mem_of_getElem? (i := 142) (by decide +kernel), List.mem_of_getElem? (i := 579) (by decide +kernel), List.mem_of_getElem? (i := 580) (by decide +kernel)⟩
theorem lw_p10 : lw_okq (⟨"DrawerWall$Walk", "grow", "(I)V"⟩, 11) := ⟨⟨by decide +kernel, by decide +kernel⟩, List.mem_of_getElem? (i := 142) (by decide +kernel), List.mem_of_getElem? (i := 587) (by decide +kernel), List.mem_of_getElem? (i := 588) (by decide +kernel)⟩
theorem lw_p11 : lw_okq (⟨"DrawerWall$Walk", "step", "(II)I"⟩, 11) := ⟨⟨by decide +kernel, by decide +kernel⟩, List.mem_of_getElem? (i := 142) (by decide +kernel), List.mem_of_getElem? (i := 591) (by decide +kernel), List.mem_of_getElem? (i := 592) (by decide +kernel)⟩
theorem lw_p12 : lw_okq (⟨"DrawerWall", "reached", "()I"⟩, 15) := ⟨⟨by decide +kernel, by decide +kernel⟩, List.mem_of_getElem? (i := 15) (by decide +kernel), List.mem_of_getElem? (i := 609) (by decide +kernel), List.mem_of_getElem? (i := 610) (by decide +kernel)⟩
theorem lw_p13 : lw_okq (⟨"DrawerWall$Walk", "isJam", "(I)Z"⟩, 11) := ⟨⟨by decide +kernel, by decide +kernel⟩, List.mem_of_getElem? (i := 142) (by decide +kernel), List.mem_of_getElem? (i := 621) (by decide +kernel), List.mem_of_getElem? (i := 622) (by decide +kernel)⟩
theorem lw_p14 : lw_okq (⟨"DrawerWall", "isSame", "(I)Z"⟩, 15) := ⟨⟨by decide +kernel, by decide +kernel⟩, List.mem_of_getElem? (i := 15) (by decide +kernel), List.mem_of_getElem? (i := 637) (by decide +kernel), List.mem_of_getElem? (i := 638) (by decide +kernel)⟩
theorem lw_p15 : lw_okq (⟨"DrawerWall", "openedWith", "(III)I"⟩, 15) := ⟨⟨by decide +kernel, by decide +kernel⟩, List.mem_of_getElem? (i := 15) (by decide +kernel), List.mem_of_getElem? (i := 654) (by decide +kernel), List.mem_of_getElem? (i := 655) (by decide +kernel)⟩
def lw_privs_1 : List (MethodName × Nat) := [(⟨"DrawerWall", "told", "(I)I"⟩, 15), (⟨"DrawerWall$Reader", "scan", "()V"⟩, 5), (⟨"DrawerWall$Reader", "wordHere", "()I"⟩, 5), (⟨"DrawerWall$Reader", "isHere", "(Ljava/lang/String;)Z"⟩, 5), (⟨"DrawerWall$Reader", "numberHere", "()I"⟩, 5), (⟨"DrawerWall$Reader", "takeItem", "(I)Z"⟩, 5), (⟨"DrawerWall$Reader", "tell", "(LDrawerWall$Wall;I)I"⟩, 5), (⟨"DrawerWall$Wall", "amount", "(IIZ)I"⟩, 14), (⟨"DrawerWall", "pullOf", "(IIIZ)I"⟩, 15), (⟨"DrawerWall$Walk", "meet", "(III)V"⟩, 11), (⟨"DrawerWall$Walk", "grow", "(I)V"⟩, 11), (⟨"DrawerWall$Walk", "step", "(II)I"⟩, 11), (⟨"DrawerWall", "reached", "()I"⟩, 15), (⟨"DrawerWall$Walk", "isJam", "(I)Z"⟩, 11), (⟨"DrawerWall", "isSame", "(I)Z"⟩, 15), (⟨"DrawerWall", "openedWith", "(III)I"⟩, 15)]
theorem lw_r1 : ∀ q ∈ lw_privs_1, lw_okq q := List.forall_mem_cons.mpr ⟨lw_p0, List.forall_mem_cons.mpr ⟨lw_p1, List.forall_mem_cons.mpr ⟨lw_p2, List.forall_mem_cons.mpr ⟨lw_p3, List.forall_mem_cons.mpr ⟨lw_p4, List.forall_mem_cons.mpr ⟨lw_p5, List.forall_mem_cons.mpr ⟨lw_p6, List.forall_mem_cons.mpr ⟨lw_p7, List.forall_mem_cons.mpr ⟨lw_p8, List.forall_mem_cons.mpr ⟨lw_p9, List.forall_mem_cons.mpr ⟨lw_p10, List.forall_mem_cons.mpr ⟨lw_p11, List.forall_mem_cons.mpr ⟨lw_p12, List.forall_mem_cons.mpr ⟨lw_p13, List.forall_mem_cons.mpr ⟨lw_p14, List.forall_mem_cons.mpr ⟨lw_p15, fun _ h => absurd h List.not_mem_nil⟩⟩⟩⟩⟩⟩⟩⟩⟩⟩⟩⟩⟩⟩⟩⟩
theorem lw_p16 : lw_okq (⟨"DrawerWall", "imageAt", "(I)LDrawerWall$Wall;"⟩, 15) := ⟨⟨by decide +kernel, by decide +kernel⟩, List.mem_of_getElem? (i := 15) (by decide +kernel), List.mem_of_getElem? (i := 733) (by decide +kernel), List.mem_of_getElem? (i := 734) (by decide +kernel)⟩
theorem lw_p17 : lw_okq (⟨"DrawerWall", "countOf", "(I)I"⟩, 15) := ⟨⟨by decide +kernel, by decide +kernel⟩, List.mem_of_getElem? (i := 15) (by decide +kernel), List.mem_of_getElem? (i := 749) (by decide +kernel), List.mem_of_getElem? (i := 750) (by decide +kernel)⟩
theorem lw_p18 : lw_okq (⟨"DrawerWallModel", "begins", "(I)V"⟩, 20) := ⟨⟨by decide +kernel, by decide +kernel⟩, List.mem_of_getElem? (i := 760) (by decide +kernel), List.mem_of_getElem? (i := 766) (by decide +kernel), List.mem_of_getElem? (i := 767) (by decide +kernel)⟩
theorem lw_p19 : lw_okq (⟨"DrawerWallModel", "bad", "()I"⟩, 20) := ⟨⟨by decide +kernel, by decide +kernel⟩, List.mem_of_getElem? (i := 760) (by decide +kernel), List.mem_of_getElem? (i := 841) (by decide +kernel), List.mem_of_getElem? (i := 842) (by decide +kernel)⟩
theorem lw_p20 : lw_okq (⟨"DrawerWallModel", "refuses", "(II)I"⟩, 20) := ⟨⟨by decide +kernel, by decide +kernel⟩, List.mem_of_getElem? (i := 760) (by decide +kernel), List.mem_of_getElem? (i := 845) (by decide +kernel), List.mem_of_getElem? (i := 846) (by decide +kernel)⟩
theorem lw_p21 : lw_okq (⟨"DrawerWallModel", "isDrawer", "(I)Z"⟩, 20) := ⟨⟨by decide +kernel, by decide +kernel⟩, List.mem_of_getElem? (i := 760) (by decide +kernel), List.mem_of_getElem? (i := 853) (by decide +kernel), List.mem_of_getElem? (i := 854) (by decide +kernel)⟩
theorem lw_p22 : lw_okq (⟨"DrawerWallModel", "full", "()I"⟩, 20) := ⟨⟨by decide +kernel, by decide +kernel⟩, List.mem_of_getElem? (i := 760) (by decide +kernel), List.mem_of_getElem? (i := 859) (by decide +kernel), List.mem_of_getElem? (i := 860) (by decide +kernel)⟩
theorem lw_p23 : lw_okq (⟨"DrawerWallModel", "ties", "(IIII)V"⟩, 20) := ⟨⟨by decide +kernel, by decide +kernel⟩, List.mem_of_getElem? (i := 760) (by decide +kernel), List.mem_of_getElem? (i := 863) (by decide +kernel), List.mem_of_getElem? (i := 864) (by decide +kernel)⟩
theorem lw_p24 : lw_okq (⟨"DrawerWallModel", "no", "()I"⟩, 20) := ⟨⟨by decide +kernel, by decide +kernel⟩, List.mem_of_getElem? (i := 760) (by decide +kernel), List.mem_of_getElem? (i := 871) (by decide +kernel), List.mem_of_getElem? (i := 872) (by decide +kernel)⟩
theorem lw_p25 : lw_okq (⟨"DrawerWallModel", "reads", "()Z"⟩, 20) := ⟨⟨by decide +kernel, by decide +kernel⟩, List.mem_of_getElem? (i := 760) (by decide +kernel), List.mem_of_getElem? (i := 903) (by decide +kernel), List.mem_of_getElem? (i := 904) (by decide +kernel)⟩
theorem lw_p26 : lw_okq (⟨"DrawerWallModel", "scans", "()V"⟩, 20) := ⟨⟨by decide +kernel, by decide +kernel⟩, List.mem_of_getElem? (i := 760) (by decide +kernel), List.mem_of_getElem? (i := 907) (by decide +kernel), List.mem_of_getElem? (i := 908) (by decide +kernel)⟩
theorem lw_p27 : lw_okq (⟨"DrawerWallModel", "isAt", "(II)Z"⟩, 20) := ⟨⟨by decide +kernel, by decide +kernel⟩, List.mem_of_getElem? (i := 760) (by decide +kernel), List.mem_of_getElem? (i := 911) (by decide +kernel), List.mem_of_getElem? (i := 912) (by decide +kernel)⟩
theorem lw_p28 : lw_okq (⟨"DrawerWallModel", "tellsItem", "(I)Z"⟩, 20) := ⟨⟨by decide +kernel, by decide +kernel⟩, List.mem_of_getElem? (i := 760) (by decide +kernel), List.mem_of_getElem? (i := 925) (by decide +kernel), List.mem_of_getElem? (i := 926) (by decide +kernel)⟩
theorem lw_p29 : lw_okq (⟨"DrawerWallModel", "allCords", "()I"⟩, 20) := ⟨⟨by decide +kernel, by decide +kernel⟩, List.mem_of_getElem? (i := 760) (by decide +kernel), List.mem_of_getElem? (i := 938) (by decide +kernel), List.mem_of_getElem? (i := 939) (by decide +kernel)⟩
theorem lw_p30 : lw_okq (⟨"DrawerWallModel", "pulled", "(III)I"⟩, 20) := ⟨⟨by decide +kernel, by decide +kernel⟩, List.mem_of_getElem? (i := 760) (by decide +kernel), List.mem_of_getElem? (i := 942) (by decide +kernel), List.mem_of_getElem? (i := 943) (by decide +kernel)⟩
theorem lw_p31 : lw_okq (⟨"DrawerWallModel", "isBeside", "(II)Z"⟩, 20) := ⟨⟨by decide +kernel, by decide +kernel⟩, List.mem_of_getElem? (i := 760) (by decide +kernel), List.mem_of_getElem? (i := 946) (by decide +kernel), List.mem_of_getElem? (i := 947) (by decide +kernel)⟩
def lw_privs_2 : List (MethodName × Nat) := [(⟨"DrawerWall", "imageAt", "(I)LDrawerWall$Wall;"⟩, 15), (⟨"DrawerWall", "countOf", "(I)I"⟩, 15), (⟨"DrawerWallModel", "begins", "(I)V"⟩, 20), (⟨"DrawerWallModel", "bad", "()I"⟩, 20), (⟨"DrawerWallModel", "refuses", "(II)I"⟩, 20), (⟨"DrawerWallModel", "isDrawer", "(I)Z"⟩, 20), (⟨"DrawerWallModel", "full", "()I"⟩, 20), (⟨"DrawerWallModel", "ties", "(IIII)V"⟩, 20), (⟨"DrawerWallModel", "no", "()I"⟩, 20), (⟨"DrawerWallModel", "reads", "()Z"⟩, 20), (⟨"DrawerWallModel", "scans", "()V"⟩, 20), (⟨"DrawerWallModel", "isAt", "(II)Z"⟩, 20), (⟨"DrawerWallModel", "tellsItem", "(I)Z"⟩, 20), (⟨"DrawerWallModel", "allCords", "()I"⟩, 20), (⟨"DrawerWallModel", "pulled", "(III)I"⟩, 20), (⟨"DrawerWallModel", "isBeside", "(II)Z"⟩, 20)]
theorem lw_r2 : ∀ q ∈ lw_privs_2, lw_okq q := List.forall_mem_cons.mpr ⟨lw_p16, List.forall_mem_cons.mpr ⟨lw_p17, List.forall_mem_cons.mpr ⟨lw_p18, List.forall_mem_cons.mpr ⟨lw_p19, List.forall_mem_cons.mpr ⟨lw_p20, List.forall_mem_cons.mpr ⟨lw_p21, List.forall_mem_cons.mpr ⟨lw_p22, List.forall_mem_cons.mpr ⟨lw_p23, List.forall_mem_cons.mpr ⟨lw_p24, List.forall_mem_cons.mpr ⟨lw_p25, List.forall_mem_cons.mpr ⟨lw_p26, List.forall_mem_cons.mpr ⟨lw_p27, List.forall_mem_cons.mpr ⟨lw_p28, List.forall_mem_cons.mpr ⟨lw_p29, List.forall_mem_cons.mpr ⟨lw_p30, List.forall_mem_cons.mpr ⟨lw_p31, fun _ h => absurd h List.not_mem_nil⟩⟩⟩⟩⟩⟩⟩⟩⟩⟩⟩⟩⟩⟩⟩⟩
theorem lw_p32 : lw_okq (⟨"DrawerWallModel", "amount", "(IIZ)I"⟩, 20) := ⟨⟨by decide +kernel, by decide +kernel⟩, List.mem_of_getElem? (i := 760) (by decide +kernel), List.mem_of_getElem? (i := 956) (by decide +kernel), List.mem_of_getElem? (i := 957) (by decide +kernel)⟩
theorem lw_p33 : lw_okq (⟨"DrawerWallModel", "isState", "(I)Z"⟩, 20) := ⟨⟨by decide +kernel, by decide +kernel⟩, List.mem_of_getElem? (i := 760) (by decide +kernel), List.mem_of_getElem? (i := 968) (by decide +kernel), List.mem_of_getElem? (i := 969) (by decide +kernel)⟩
theorem lw_p34 : lw_okq (⟨"DrawerWallModel", "states", "()I"⟩, 20) := ⟨⟨by decide +kernel, by decide +kernel⟩, List.mem_of_getElem? (i := 760) (by decide +kernel), List.mem_of_getElem? (i := 972) (by decide +kernel), List.mem_of_getElem? (i := 973) (by decide +kernel)⟩
theorem lw_p35 : lw_okq (⟨"DrawerWallModel", "rows", "(IIIZ)I"⟩, 20) := ⟨⟨by decide +kernel, by decide +kernel⟩, List.mem_of_getElem? (i := 760) (by decide +kernel), List.mem_of_getElem? (i := 984) (by decide +kernel), List.mem_of_getElem? (i := 985) (by decide +kernel)⟩
theorem lw_p36 : lw_okq (⟨"DrawerWallModel", "lays", "()V"⟩, 20) := ⟨⟨by decide +kernel, by decide +kernel⟩, List.mem_of_getElem? (i := 760) (by decide +kernel), List.mem_of_getElem? (i := 988) (by decide +kernel), List.mem_of_getElem? (i := 989) (by decide +kernel)⟩
theorem lw_p37 : lw_okq (⟨"DrawerWallModel", "reckons", "(IIZ)V"⟩, 20) := ⟨⟨by decide +kernel, by decide +kernel⟩, List.mem_of_getElem? (i := 760) (by decide +kernel), List.mem_of_getElem? (i := 992) (by decide +kernel), List.mem_of_getElem? (i := 993) (by decide +kernel)⟩
theorem lw_p38 : lw_okq (⟨"DrawerWallModel", "isDanger", "(I)Z"⟩, 20) := ⟨⟨by decide +kernel, by decide +kernel⟩, List.mem_of_getElem? (i := 760) (by decide +kernel), List.mem_of_getElem? (i := 996) (by decide +kernel), List.mem_of_getElem? (i := 997) (by decide +kernel)⟩
theorem lw_p39 : lw_okq (⟨"DrawerWallModel", "isEnd", "(III)Z"⟩, 20) := ⟨⟨by decide +kernel, by decide +kernel⟩, List.mem_of_getElem? (i := 760) (by decide +kernel), List.mem_of_getElem? (i := 1000) (by decide +kernel), List.mem_of_getElem? (i := 1001) (by decide +kernel)⟩
theorem lw_p40 : lw_okq (⟨"DrawerWallModel", "next", "(I)I"⟩, 20) := ⟨⟨by decide +kernel, by decide +kernel⟩, List.mem_of_getElem? (i := 760) (by decide +kernel), List.mem_of_getElem? (i := 1004) (by decide +kernel), List.mem_of_getElem? (i := 1005) (by decide +kernel)⟩
theorem lw_p41 : lw_okq (⟨"DrawerWallModel", "goes", "(I)V"⟩, 20) := ⟨⟨by decide +kernel, by decide +kernel⟩, List.mem_of_getElem? (i := 760) (by decide +kernel), List.mem_of_getElem? (i := 1016) (by decide +kernel), List.mem_of_getElem? (i := 1017) (by decide +kernel)⟩
theorem lw_p42 : lw_okq (⟨"DrawerWallModel", "sumBy", "(II)I"⟩, 20) := ⟨⟨by decide +kernel, by decide +kernel⟩, List.mem_of_getElem? (i := 760) (by decide +kernel), List.mem_of_getElem? (i := 1024) (by decide +kernel), List.mem_of_getElem? (i := 1025) (by decide +kernel)⟩
theorem lw_p43 : lw_okq (⟨"DrawerWallModel", "opens", "()I"⟩, 20) := ⟨⟨by decide +kernel, by decide +kernel⟩, List.mem_of_getElem? (i := 760) (by decide +kernel), List.mem_of_getElem? (i := 1036) (by decide +kernel), List.mem_of_getElem? (i := 1037) (by decide +kernel)⟩
theorem lw_p44 : lw_okq (⟨"DrawerWallModel", "days", "()I"⟩, 20) := ⟨⟨by decide +kernel, by decide +kernel⟩, List.mem_of_getElem? (i := 760) (by decide +kernel), List.mem_of_getElem? (i := 1044) (by decide +kernel), List.mem_of_getElem? (i := 1045) (by decide +kernel)⟩
theorem lw_p45 : lw_okq (⟨"DrawerWallModel", "swaps", "(II)V"⟩, 20) := ⟨⟨by decide +kernel, by decide +kernel⟩, List.mem_of_getElem? (i := 760) (by decide +kernel), List.mem_of_getElem? (i := 1052) (by decide +kernel), List.mem_of_getElem? (i := 1053) (by decide +kernel)⟩
theorem lw_p46 : lw_okq (⟨"DrawerWallModel", "countOf", "(I)I"⟩, 20) := ⟨⟨by decide +kernel, by decide +kernel⟩, List.mem_of_getElem? (i := 760) (by decide +kernel), List.mem_of_getElem? (i := 1088) (by decide +kernel), List.mem_of_getElem? (i := 1089) (by decide +kernel)⟩
theorem lw_p47 : lw_okq (⟨"DrawerWallModel", "mixed", "(JII)J"⟩, 20) := ⟨⟨by decide +kernel, by decide +kernel⟩, List.mem_of_getElem? (i := 760) (by decide +kernel), List.mem_of_getElem? (i := 1098) (by decide +kernel), List.mem_of_getElem? (i := 1099) (by decide +kernel)⟩
def lw_privs_3 : List (MethodName × Nat) := [(⟨"DrawerWallModel", "amount", "(IIZ)I"⟩, 20), (⟨"DrawerWallModel", "isState", "(I)Z"⟩, 20), (⟨"DrawerWallModel", "states", "()I"⟩, 20), (⟨"DrawerWallModel", "rows", "(IIIZ)I"⟩, 20), (⟨"DrawerWallModel", "lays", "()V"⟩, 20), (⟨"DrawerWallModel", "reckons", "(IIZ)V"⟩, 20), (⟨"DrawerWallModel", "isDanger", "(I)Z"⟩, 20), (⟨"DrawerWallModel", "isEnd", "(III)Z"⟩, 20), (⟨"DrawerWallModel", "next", "(I)I"⟩, 20), (⟨"DrawerWallModel", "goes", "(I)V"⟩, 20), (⟨"DrawerWallModel", "sumBy", "(II)I"⟩, 20), (⟨"DrawerWallModel", "opens", "()I"⟩, 20), (⟨"DrawerWallModel", "days", "()I"⟩, 20), (⟨"DrawerWallModel", "swaps", "(II)V"⟩, 20), (⟨"DrawerWallModel", "countOf", "(I)I"⟩, 20), (⟨"DrawerWallModel", "mixed", "(JII)J"⟩, 20)]
theorem lw_r3 : ∀ q ∈ lw_privs_3, lw_okq q := List.forall_mem_cons.mpr ⟨lw_p32, List.forall_mem_cons.mpr ⟨lw_p33, List.forall_mem_cons.mpr ⟨lw_p34, List.forall_mem_cons.mpr ⟨lw_p35, List.forall_mem_cons.mpr ⟨lw_p36, List.forall_mem_cons.mpr ⟨lw_p37, List.forall_mem_cons.mpr ⟨lw_p38, List.forall_mem_cons.mpr ⟨lw_p39, List.forall_mem_cons.mpr ⟨lw_p40, List.forall_mem_cons.mpr ⟨lw_p41, List.forall_mem_cons.mpr ⟨lw_p42, List.forall_mem_cons.mpr ⟨lw_p43, List.forall_mem_cons.mpr ⟨lw_p44, List.forall_mem_cons.mpr ⟨lw_p45, List.forall_mem_cons.mpr ⟨lw_p46, List.forall_mem_cons.mpr ⟨lw_p47, fun _ h => absurd h List.not_mem_nil⟩⟩⟩⟩⟩⟩⟩⟩⟩⟩⟩⟩⟩⟩⟩⟩
def lw_privs : List (MethodName × Nat) := lw_privs_1 ++ (lw_privs_2 ++ (lw_privs_3))
def lw_tbl : List Cond := k2_sels lw_privs ++ tables_1
theorem lw_privs_ok : ∀ q ∈ lw_privs, lw_okq q := by
  show ∀ q ∈ lw_privs_1 ++ (lw_privs_2 ++ (lw_privs_3)), lw_okq q
  exact List.forall_mem_append.mpr ⟨lw_r1, List.forall_mem_append.mpr ⟨lw_r2, lw_r3⟩⟩
-- ===== end of PART A; then your names; then what follows =====
/-! ===== BEGIN words of one list among another's, by their places ===== -/
/-! ===== END ===== -/

/-! ===== BEGIN printed: names, fields, word lists, decode rows ===== -/
def RX0 : String := "DrawerWall$Day"
def TX0 : u_T := fun k => match k with
  | 0 => ("DrawerWall$Day", "served", "I", false)
  | _ => ("DrawerWall$Day", "pulls", "I", false)
def tyX0 : Nat → FieldType := fun k => match k with
  | 0 => .int
  | _ => .int
abbrev wsX00 : List Cond := u_ws RX0 TX0 2
theorem nmX0 : ∀ a, a < 2 → ∀ b, b < 2 → a ≠ b → (TX0 a).2.1 ≠ (TX0 b).2.1 := by decide +kernel
theorem tyX0_ok : ∀ k, k < 2 → parseFieldDescriptor (TX0 k).2.2.1 = some (tyX0 k) := by decide +kernel
abbrev cX0_init : ByteArray := prog_2_method_1_code
def yX0_init : MethodName := ⟨RX0, "<init>", "()V"⟩
abbrev cX0_run : ByteArray := prog_2_method_2_code
def yX0_run : MethodName := ⟨RX0, "run", "(LDrawerWall$Wall;LDrawerWall$Walk;II)V"⟩
abbrev cX0_exchanged : ByteArray := prog_2_method_3_code
def yX0_exchanged : MethodName := ⟨RX0, "exchanged", "(III)I"⟩
abbrev cX0_isBetterThan : ByteArray := prog_2_method_4_code
def yX0_isBetterThan : MethodName := ⟨RX0, "isBetterThan", "(LDrawerWall$Day;)Z"⟩
abbrev cX0_copyFrom : ByteArray := prog_2_method_5_code
def yX0_copyFrom : MethodName := ⟨RX0, "copyFrom", "(LDrawerWall$Day;)V"⟩
def RX1 : String := "DrawerWall$Reader"
def TX1 : u_T := fun k => match k with
  | 0 => ("DrawerWall$Reader", "bytes", "LDrawerWall$Row;", true)
  | 1 => ("DrawerWall$Reader", "cells", "LDrawerWall$Row;", true)
  | 2 => ("DrawerWall$Reader", "place", "I", false)
  | 3 => ("DrawerWall$Reader", "next", "I", false)
  | _ => ("DrawerWall$Reader", "token", "I", false)
def tyX1 : Nat → FieldType := fun k => match k with
  | 0 => .object "DrawerWall$Row"
  | 1 => .object "DrawerWall$Row"
  | 2 => .int
  | 3 => .int
  | _ => .int
abbrev wsX10 : List Cond := u_ws RX1 TX1 5
theorem nmX1 : ∀ a, a < 5 → ∀ b, b < 5 → a ≠ b → (TX1 a).2.1 ≠ (TX1 b).2.1 := by decide +kernel
theorem tyX1_ok : ∀ k, k < 5 → parseFieldDescriptor (TX1 k).2.2.1 = some (tyX1 k) := by decide +kernel
abbrev cX1_init : ByteArray := prog_3_method_1_code
def yX1_init : MethodName := ⟨RX1, "<init>", "()V"⟩
abbrev cX1_items : ByteArray := prog_3_method_2_code
def yX1_items : MethodName := ⟨RX1, "items", "()I"⟩
abbrev cX1_faultIn : ByteArray := prog_3_method_3_code
def yX1_faultIn : MethodName := ⟨RX1, "faultIn", "(LDrawerWall$Row;)I"⟩
abbrev cX1_takeItem : ByteArray := prog_3_method_4_code
def yX1_takeItem : MethodName := ⟨RX1, "takeItem", "(I)Z"⟩
abbrev cX1_numbersOf : ByteArray := prog_3_method_5_code
def yX1_numbersOf : MethodName := ⟨RX1, "numbersOf", "(I)I"⟩
abbrev cX1_scan : ByteArray := prog_3_method_6_code
def yX1_scan : MethodName := ⟨RX1, "scan", "()V"⟩
abbrev cX1_numberHere : ByteArray := prog_3_method_7_code
def yX1_numberHere : MethodName := ⟨RX1, "numberHere", "()I"⟩
abbrev cX1_wordHere : ByteArray := prog_3_method_8_code
def yX1_wordHere : MethodName := ⟨RX1, "wordHere", "()I"⟩
abbrev cX1_isHere : ByteArray := prog_3_method_9_code
def yX1_isHere : MethodName := ⟨RX1, "isHere", "(Ljava/lang/String;)Z"⟩
abbrev cX1_isLetter : ByteArray := prog_3_method_10_code
def yX1_isLetter : MethodName := ⟨RX1, "isLetter", "(I)Z"⟩
abbrev cX1_isFigure : ByteArray := prog_3_method_11_code
def yX1_isFigure : MethodName := ⟨RX1, "isFigure", "(I)Z"⟩
abbrev cX1_refusedBy : ByteArray := prog_3_method_12_code
def yX1_refusedBy : MethodName := ⟨RX1, "refusedBy", "(LDrawerWall$Wall;)I"⟩
abbrev cX1_tell : ByteArray := prog_3_method_13_code
def yX1_tell : MethodName := ⟨RX1, "tell", "(LDrawerWall$Wall;I)I"⟩
def RX2 : String := "DrawerWall$Row"
def TX2 : u_T := fun k => match k with
  | 0 => ("DrawerWall$Row", "cells", "[I", true)
  | _ => ("DrawerWall$Row", "size", "I", false)
def tyX2 : Nat → FieldType := fun k => match k with
  | 0 => .array .int
  | _ => .int
abbrev wsX20 : List Cond := u_ws RX2 TX2 2
theorem nmX2 : ∀ a, a < 2 → ∀ b, b < 2 → a ≠ b → (TX2 a).2.1 ≠ (TX2 b).2.1 := by decide +kernel
theorem tyX2_ok : ∀ k, k < 2 → parseFieldDescriptor (TX2 k).2.2.1 = some (tyX2 k) := by decide +kernel
abbrev cX2_init : ByteArray := prog_4_method_1_code
def yX2_init : MethodName := ⟨RX2, "<init>", "(I)V"⟩
abbrev cX2_size : ByteArray := prog_4_method_2_code
def yX2_size : MethodName := ⟨RX2, "size", "()I"⟩
abbrev cX2_isFull : ByteArray := prog_4_method_3_code
def yX2_isFull : MethodName := ⟨RX2, "isFull", "()Z"⟩
abbrev cX2_holds : ByteArray := prog_4_method_4_code
def yX2_holds : MethodName := ⟨RX2, "holds", "(I)Z"⟩
abbrev cX2_at : ByteArray := prog_4_method_5_code
def yX2_at : MethodName := ⟨RX2, "at", "(I)I"⟩
abbrev cX2_set : ByteArray := prog_4_method_6_code
def yX2_set : MethodName := ⟨RX2, "set", "(II)V"⟩
abbrev cX2_add : ByteArray := prog_4_method_7_code
def yX2_add : MethodName := ⟨RX2, "add", "(I)V"⟩
abbrev cX2_takeLast : ByteArray := prog_4_method_8_code
def yX2_takeLast : MethodName := ⟨RX2, "takeLast", "()I"⟩
abbrev cX2_dropFirst : ByteArray := prog_4_method_9_code
def yX2_dropFirst : MethodName := ⟨RX2, "dropFirst", "()V"⟩
abbrev cX2_drop : ByteArray := prog_4_method_10_code
def yX2_drop : MethodName := ⟨RX2, "drop", "()V"⟩
abbrev cX2_fill : ByteArray := prog_4_method_11_code
def yX2_fill : MethodName := ⟨RX2, "fill", "(II)V"⟩
abbrev cX2_copyFrom : ByteArray := prog_4_method_12_code
def yX2_copyFrom : MethodName := ⟨RX2, "copyFrom", "(LDrawerWall$Row;)V"⟩
def RX3 : String := "DrawerWall$Walk"
def TX3 : u_T := fun k => match k with
  | 0 => ("DrawerWall$Walk", "steps", "LDrawerWall$Row;", true)
  | 1 => ("DrawerWall$Walk", "far", "LDrawerWall$Row;", true)
  | 2 => ("DrawerWall$Walk", "ahead", "LDrawerWall$Row;", true)
  | 3 => ("DrawerWall$Walk", "by", "LDrawerWall$Row;", true)
  | 4 => ("DrawerWall$Walk", "found", "LDrawerWall$Row;", true)
  | 5 => ("DrawerWall$Walk", "isLearned", "Z", false)
  | 6 => ("DrawerWall$Walk", "drawers", "I", false)
  | 7 => ("DrawerWall$Walk", "states", "I", false)
  | 8 => ("DrawerWall$Walk", "tiedFrom", "I", false)
  | 9 => ("DrawerWall$Walk", "tiedTo", "I", false)
  | _ => ("DrawerWall$Walk", "tiedBy", "I", false)
def tyX3 : Nat → FieldType := fun k => match k with
  | 0 => .object "DrawerWall$Row"
  | 1 => .object "DrawerWall$Row"
  | 2 => .object "DrawerWall$Row"
  | 3 => .object "DrawerWall$Row"
  | 4 => .object "DrawerWall$Row"
  | 5 => .boolean
  | 6 => .int
  | 7 => .int
  | 8 => .int
  | 9 => .int
  | _ => .int
abbrev wsX30 : List Cond := u_ws RX3 TX3 11
theorem nmX3 : ∀ a, a < 11 → ∀ b, b < 11 → a ≠ b → (TX3 a).2.1 ≠ (TX3 b).2.1 := by decide +kernel
theorem tyX3_ok : ∀ k, k < 11 → parseFieldDescriptor (TX3 k).2.2.1 = some (tyX3 k) := by decide +kernel
abbrev cX3_init : ByteArray := prog_5_method_1_code
def yX3_init : MethodName := ⟨RX3, "<init>", "()V"⟩
abbrev cX3_learn : ByteArray := prog_5_method_2_code
def yX3_learn : MethodName := ⟨RX3, "learn", "(LDrawerWall$Wall;)V"⟩
abbrev cX3_forget : ByteArray := prog_5_method_3_code
def yX3_forget : MethodName := ⟨RX3, "forget", "()V"⟩
abbrev cX3_learnDrawer : ByteArray := prog_5_method_4_code
def yX3_learnDrawer : MethodName := ⟨RX3, "learnDrawer", "(LDrawerWall$Wall;II)V"⟩
abbrev cX3_tied : ByteArray := prog_5_method_5_code
def yX3_tied : MethodName := ⟨RX3, "tied", "(III)V"⟩
abbrev cX3_step : ByteArray := prog_5_method_6_code
def yX3_step : MethodName := ⟨RX3, "step", "(II)I"⟩
abbrev cX3_begin : ByteArray := prog_5_method_7_code
def yX3_begin : MethodName := ⟨RX3, "begin", "()V"⟩
abbrev cX3_barDangers : ByteArray := prog_5_method_8_code
def yX3_barDangers : MethodName := ⟨RX3, "barDangers", "(LDrawerWall$Wall;)V"⟩
abbrev cX3_spread : ByteArray := prog_5_method_9_code
def yX3_spread : MethodName := ⟨RX3, "spread", "(I)V"⟩
abbrev cX3_grow : ByteArray := prog_5_method_10_code
def yX3_grow : MethodName := ⟨RX3, "grow", "(I)V"⟩
abbrev cX3_meet : ByteArray := prog_5_method_11_code
def yX3_meet : MethodName := ⟨RX3, "meet", "(III)V"⟩
abbrev cX3_firstWith : ByteArray := prog_5_method_12_code
def yX3_firstWith : MethodName := ⟨RX3, "firstWith", "(III)I"⟩
abbrev cX3_nearestOpen : ByteArray := prog_5_method_13_code
def yX3_nearestOpen : MethodName := ⟨RX3, "nearestOpen", "(II)I"⟩
abbrev cX3_pulledAt : ByteArray := prog_5_method_14_code
def yX3_pulledAt : MethodName := ⟨RX3, "pulledAt", "(II)I"⟩
abbrev cX3_everOpen : ByteArray := prog_5_method_15_code
def yX3_everOpen : MethodName := ⟨RX3, "everOpen", "()I"⟩
abbrev cX3_isJam : ByteArray := prog_5_method_16_code
def yX3_isJam : MethodName := ⟨RX3, "isJam", "(I)Z"⟩
abbrev cX3_jams : ByteArray := prog_5_method_17_code
def yX3_jams : MethodName := ⟨RX3, "jams", "()I"⟩
abbrev cX3_leastJam : ByteArray := prog_5_method_18_code
def yX3_leastJam : MethodName := ⟨RX3, "leastJam", "()I"⟩
def RX4 : String := "DrawerWall$Wall"
def TX4 : u_T := fun k => match k with
  | 0 => ("DrawerWall$Wall", "drawers", "I", false)
  | 1 => ("DrawerWall$Wall", "now", "I", false)
  | 2 => ("DrawerWall$Wall", "catches", "I", false)
  | 3 => ("DrawerWall$Wall", "poison", "I", false)
  | 4 => ("DrawerWall$Wall", "food", "I", false)
  | 5 => ("DrawerWall$Wall", "goods", "LDrawerWall$Row;", true)
  | 6 => ("DrawerWall$Wall", "cordFrom", "LDrawerWall$Row;", true)
  | 7 => ("DrawerWall$Wall", "cordTo", "LDrawerWall$Row;", true)
  | 8 => ("DrawerWall$Wall", "cordKind", "LDrawerWall$Row;", true)
  | 9 => ("DrawerWall$Wall", "cordBy", "LDrawerWall$Row;", true)
  | 10 => ("DrawerWall$Wall", "orders", "LDrawerWall$Row;", true)
  | 11 => ("DrawerWall$Wall", "sightDrawers", "LDrawerWall$Row;", true)
  | 12 => ("DrawerWall$Wall", "sightStates", "LDrawerWall$Row;", true)
  | _ => ("DrawerWall$Wall", "past", "LDrawerWall$Row;", true)
def tyX4 : Nat → FieldType := fun k => match k with
  | 0 => .int
  | 1 => .int
  | 2 => .int
  | 3 => .int
  | 4 => .int
  | 5 => .object "DrawerWall$Row"
  | 6 => .object "DrawerWall$Row"
  | 7 => .object "DrawerWall$Row"
  | 8 => .object "DrawerWall$Row"
  | 9 => .object "DrawerWall$Row"
  | 10 => .object "DrawerWall$Row"
  | 11 => .object "DrawerWall$Row"
  | 12 => .object "DrawerWall$Row"
  | _ => .object "DrawerWall$Row"
abbrev wsX40 : List Cond := u_ws RX4 TX4 14
theorem nmX4 : ∀ a, a < 14 → ∀ b, b < 14 → a ≠ b → (TX4 a).2.1 ≠ (TX4 b).2.1 := by decide +kernel
theorem tyX4_ok : ∀ k, k < 14 → parseFieldDescriptor (TX4 k).2.2.1 = some (tyX4 k) := by decide +kernel
abbrev cX4_init : ByteArray := prog_6_method_1_code
def yX4_init : MethodName := ⟨RX4, "<init>", "()V"⟩
abbrev cX4_tellDrawers : ByteArray := prog_6_method_2_code
def yX4_tellDrawers : MethodName := ⟨RX4, "tellDrawers", "(I)I"⟩
abbrev cX4_tellCord : ByteArray := prog_6_method_3_code
def yX4_tellCord : MethodName := ⟨RX4, "tellCord", "(IIII)I"⟩
abbrev cX4_tellCatch : ByteArray := prog_6_method_4_code
def yX4_tellCatch : MethodName := ⟨RX4, "tellCatch", "(IZ)I"⟩
abbrev cX4_tellGoods : ByteArray := prog_6_method_5_code
def yX4_tellGoods : MethodName := ⟨RX4, "tellGoods", "(II)I"⟩
abbrev cX4_tellOrder : ByteArray := prog_6_method_6_code
def yX4_tellOrder : MethodName := ⟨RX4, "tellOrder", "(I)I"⟩
abbrev cX4_copyFrom : ByteArray := prog_6_method_7_code
def yX4_copyFrom : MethodName := ⟨RX4, "copyFrom", "(LDrawerWall$Wall;)V"⟩
abbrev cX4_states : ByteArray := prog_6_method_8_code
def yX4_states : MethodName := ⟨RX4, "states", "()I"⟩
abbrev cX4_hasDrawer : ByteArray := prog_6_method_9_code
def yX4_hasDrawer : MethodName := ⟨RX4, "hasDrawer", "(I)Z"⟩
abbrev cX4_hasState : ByteArray := prog_6_method_10_code
def yX4_hasState : MethodName := ⟨RX4, "hasState", "(I)Z"⟩
abbrev cX4_hasSet : ByteArray := prog_6_method_11_code
def yX4_hasSet : MethodName := ⟨RX4, "hasSet", "(I)Z"⟩
abbrev cX4_hasCatch : ByteArray := prog_6_method_12_code
def yX4_hasCatch : MethodName := ⟨RX4, "hasCatch", "(I)Z"⟩
abbrev cX4_remember : ByteArray := prog_6_method_13_code
def yX4_remember : MethodName := ⟨RX4, "remember", "()V"⟩
abbrev cX4_after : ByteArray := prog_6_method_14_code
def yX4_after : MethodName := ⟨RX4, "after", "(III)I"⟩
abbrev cX4_amount : ByteArray := prog_6_method_15_code
def yX4_amount : MethodName := ⟨RX4, "amount", "(IIZ)I"⟩
abbrev cX4_drawersWith : ByteArray := prog_6_method_16_code
def yX4_drawersWith : MethodName := ⟨RX4, "drawersWith", "(I)I"⟩
abbrev cX4_isDanger : ByteArray := prog_6_method_17_code
def yX4_isDanger : MethodName := ⟨RX4, "isDanger", "(I)Z"⟩
abbrev cX4_isSeenBy : ByteArray := prog_6_method_18_code
def yX4_isSeenBy : MethodName := ⟨RX4, "isSeenBy", "(I)Z"⟩
def RX5 : String := "DrawerWall"
def TX5 : u_T := fun k => match k with
  | 0 => ("DrawerWall", "wall", "LDrawerWall$Wall;", true)
  | 1 => ("DrawerWall", "draft", "LDrawerWall$Wall;", true)
  | 2 => ("DrawerWall", "imageZero", "LDrawerWall$Wall;", true)
  | 3 => ("DrawerWall", "imageOne", "LDrawerWall$Wall;", true)
  | 4 => ("DrawerWall", "isZeroKept", "Z", false)
  | 5 => ("DrawerWall", "isOneKept", "Z", false)
  | 6 => ("DrawerWall", "text", "LDrawerWall$Row;", true)
  | 7 => ("DrawerWall", "reader", "LDrawerWall$Reader;", true)
  | 8 => ("DrawerWall", "walk", "LDrawerWall$Walk;", true)
  | 9 => ("DrawerWall", "today", "LDrawerWall$Day;", true)
  | 10 => ("DrawerWall", "other", "LDrawerWall$Day;", true)
  | 11 => ("DrawerWall", "witnesses", "LDrawerWall$Row;", true)
  | 12 => ("DrawerWall", "refusedBad", "I", false)
  | 13 => ("DrawerWall", "refusedNo", "I", false)
  | _ => ("DrawerWall", "refusedFull", "I", false)
def tyX5 : Nat → FieldType := fun k => match k with
  | 0 => .object "DrawerWall$Wall"
  | 1 => .object "DrawerWall$Wall"
  | 2 => .object "DrawerWall$Wall"
  | 3 => .object "DrawerWall$Wall"
  | 4 => .boolean
  | 5 => .boolean
  | 6 => .object "DrawerWall$Row"
  | 7 => .object "DrawerWall$Reader"
  | 8 => .object "DrawerWall$Walk"
  | 9 => .object "DrawerWall$Day"
  | 10 => .object "DrawerWall$Day"
  | 11 => .object "DrawerWall$Row"
  | 12 => .int
  | 13 => .int
  | _ => .int
abbrev wsX50 : List Cond := u_ws RX5 TX5 15
theorem nmX5 : ∀ a, a < 15 → ∀ b, b < 15 → a ≠ b → (TX5 a).2.1 ≠ (TX5 b).2.1 := by decide +kernel
theorem tyX5_ok : ∀ k, k < 15 → parseFieldDescriptor (TX5 k).2.2.1 = some (tyX5 k) := by decide +kernel
abbrev cX5_init : ByteArray := prog_1_method_1_code
def yX5_init : MethodName := ⟨RX5, "<init>", "()V"⟩
abbrev cX5_wall : ByteArray := prog_1_method_2_code
def yX5_wall : MethodName := ⟨RX5, "wall", "(I)I"⟩
abbrev cX5_cord : ByteArray := prog_1_method_3_code
def yX5_cord : MethodName := ⟨RX5, "cord", "(IIII)I"⟩
abbrev cX5_caught : ByteArray := prog_1_method_4_code
def yX5_caught : MethodName := ⟨RX5, "caught", "(IZ)I"⟩
abbrev cX5_good : ByteArray := prog_1_method_5_code
def yX5_good : MethodName := ⟨RX5, "good", "(II)I"⟩
abbrev cX5_put : ByteArray := prog_1_method_6_code
def yX5_put : MethodName := ⟨RX5, "put", "(II)I"⟩
abbrev cX5_order : ByteArray := prog_1_method_7_code
def yX5_order : MethodName := ⟨RX5, "order", "(I)I"⟩
abbrev cX5_type : ByteArray := prog_1_method_8_code
def yX5_type : MethodName := ⟨RX5, "type", "(JI)I"⟩
abbrev cX5_clear : ByteArray := prog_1_method_9_code
def yX5_clear : MethodName := ⟨RX5, "clear", "()I"⟩
abbrev cX5_read : ByteArray := prog_1_method_10_code
def yX5_read : MethodName := ⟨RX5, "read", "()I"⟩
abbrev cX5_pull : ByteArray := prog_1_method_11_code
def yX5_pull : MethodName := ⟨RX5, "pull", "(I)I"⟩
abbrev cX5_undo : ByteArray := prog_1_method_12_code
def yX5_undo : MethodName := ⟨RX5, "undo", "()I"⟩
abbrev cX5_behind : ByteArray := prog_1_method_13_code
def yX5_behind : MethodName := ⟨RX5, "behind", "(II)I"⟩
abbrev cX5_out : ByteArray := prog_1_method_14_code
def yX5_out : MethodName := ⟨RX5, "out", "(I)I"⟩
abbrev cX5_pulls : ByteArray := prog_1_method_15_code
def yX5_pulls : MethodName := ⟨RX5, "pulls", "(III)I"⟩
abbrev cX5_safe : ByteArray := prog_1_method_16_code
def yX5_safe : MethodName := ⟨RX5, "safe", "(III)I"⟩
abbrev cX5_reach : ByteArray := prog_1_method_17_code
def yX5_reach : MethodName := ⟨RX5, "reach", "(I)I"⟩
abbrev cX5_kept : ByteArray := prog_1_method_18_code
def yX5_kept : MethodName := ⟨RX5, "kept", "()I"⟩
abbrev cX5_cut : ByteArray := prog_1_method_19_code
def yX5_cut : MethodName := ⟨RX5, "cut", "()I"⟩
abbrev cX5_tie : ByteArray := prog_1_method_20_code
def yX5_tie : MethodName := ⟨RX5, "tie", "()I"⟩
abbrev cX5_day : ByteArray := prog_1_method_21_code
def yX5_day : MethodName := ⟨RX5, "day", "(I)I"⟩
abbrev cX5_laid : ByteArray := prog_1_method_22_code
def yX5_laid : MethodName := ⟨RX5, "laid", "()I"⟩
abbrev cX5_danger : ByteArray := prog_1_method_23_code
def yX5_danger : MethodName := ⟨RX5, "danger", "(I)I"⟩
abbrev cX5_sight : ByteArray := prog_1_method_24_code
def yX5_sight : MethodName := ⟨RX5, "sight", "(II)I"⟩
abbrev cX5_none : ByteArray := prog_1_method_25_code
def yX5_none : MethodName := ⟨RX5, "none", "(I)I"⟩
abbrev cX5_fits : ByteArray := prog_1_method_26_code
def yX5_fits : MethodName := ⟨RX5, "fits", "(I)I"⟩
abbrev cX5_image : ByteArray := prog_1_method_27_code
def yX5_image : MethodName := ⟨RX5, "image", "(I)I"⟩
abbrev cX5_from : ByteArray := prog_1_method_28_code
def yX5_from : MethodName := ⟨RX5, "from", "(I)I"⟩
abbrev cX5_status : ByteArray := prog_1_method_29_code
def yX5_status : MethodName := ⟨RX5, "status", "(I)I"⟩
abbrev cX5_count : ByteArray := prog_1_method_30_code
def yX5_count : MethodName := ⟨RX5, "count", "(I)I"⟩
abbrev cX5_digest : ByteArray := prog_1_method_31_code
def yX5_digest : MethodName := ⟨RX5, "digest", "()J"⟩
abbrev cX5_told : ByteArray := prog_1_method_32_code
def yX5_told : MethodName := ⟨RX5, "told", "(I)I"⟩
abbrev cX5_countOf : ByteArray := prog_1_method_33_code
def yX5_countOf : MethodName := ⟨RX5, "countOf", "(I)I"⟩
abbrev cX5_imageAt : ByteArray := prog_1_method_34_code
def yX5_imageAt : MethodName := ⟨RX5, "imageAt", "(I)LDrawerWall$Wall;"⟩
abbrev cX5_reached : ByteArray := prog_1_method_35_code
def yX5_reached : MethodName := ⟨RX5, "reached", "()I"⟩
abbrev cX5_openedWith : ByteArray := prog_1_method_36_code
def yX5_openedWith : MethodName := ⟨RX5, "openedWith", "(III)I"⟩
abbrev cX5_pullOf : ByteArray := prog_1_method_37_code
def yX5_pullOf : MethodName := ⟨RX5, "pullOf", "(IIIZ)I"⟩
abbrev cX5_isSame : ByteArray := prog_1_method_38_code
def yX5_isSame : MethodName := ⟨RX5, "isSame", "(I)Z"⟩
abbrev cX5_sumOf : ByteArray := prog_1_method_39_code
def yX5_sumOf : MethodName := ⟨RX5, "sumOf", "(II)I"⟩
abbrev cX5_power : ByteArray := prog_1_method_40_code
def yX5_power : MethodName := ⟨RX5, "power", "(I)I"⟩
abbrev cX5_outIn : ByteArray := prog_1_method_41_code
def yX5_outIn : MethodName := ⟨RX5, "outIn", "(II)I"⟩
abbrev cX5_moved : ByteArray := prog_1_method_42_code
def yX5_moved : MethodName := ⟨RX5, "moved", "(III)I"⟩
abbrev cX5_drawersOut : ByteArray := prog_1_method_43_code
def yX5_drawersOut : MethodName := ⟨RX5, "drawersOut", "(II)I"⟩
abbrev cX5_beside : ByteArray := prog_1_method_44_code
def yX5_beside : MethodName := ⟨RX5, "beside", "(I)I"⟩
abbrev cX5_isOpenBeside : ByteArray := prog_1_method_45_code
def yX5_isOpenBeside : MethodName := ⟨RX5, "isOpenBeside", "(II)Z"⟩
def RX6 : String := "DrawerWallModel"
def TX6 : u_T := fun k => match k with
  | 0 => ("DrawerWallModel", "book", "[I", true)
  | 1 => ("DrawerWallModel", "images", "[I", true)
  | 2 => ("DrawerWallModel", "kept", "[Z", true)
  | 3 => ("DrawerWallModel", "aside", "[I", true)
  | 4 => ("DrawerWallModel", "refused", "[I", true)
  | 5 => ("DrawerWallModel", "quiet", "Z", false)
  | 6 => ("DrawerWallModel", "text", "[I", true)
  | 7 => ("DrawerWallModel", "typed", "I", false)
  | 8 => ("DrawerWallModel", "at", "I", false)
  | 9 => ("DrawerWallModel", "start", "I", false)
  | 10 => ("DrawerWallModel", "token", "I", false)
  | 11 => ("DrawerWallModel", "value", "I", false)
  | 12 => ("DrawerWallModel", "items", "[I", true)
  | 13 => ("DrawerWallModel", "many", "I", false)
  | 14 => ("DrawerWallModel", "leads", "[I", true)
  | 15 => ("DrawerWallModel", "far", "[I", true)
  | 16 => ("DrawerWallModel", "there", "[Z", true)
  | 17 => ("DrawerWallModel", "queue", "[I", true)
  | 18 => ("DrawerWallModel", "found", "I", false)
  | _ => ("DrawerWallModel", "served", "I", false)
def tyX6 : Nat → FieldType := fun k => match k with
  | 0 => .array .int
  | 1 => .array .int
  | 2 => .array .boolean
  | 3 => .array .int
  | 4 => .array .int
  | 5 => .boolean
  | 6 => .array .int
  | 7 => .int
  | 8 => .int
  | 9 => .int
  | 10 => .int
  | 11 => .int
  | 12 => .array .int
  | 13 => .int
  | 14 => .array .int
  | 15 => .array .int
  | 16 => .array .boolean
  | 17 => .array .int
  | 18 => .int
  | _ => .int
abbrev wsX60 : List Cond := u_ws RX6 TX6 20
theorem nmX6 : ∀ a, a < 20 → ∀ b, b < 20 → a ≠ b → (TX6 a).2.1 ≠ (TX6 b).2.1 := by decide +kernel
theorem tyX6_ok : ∀ k, k < 20 → parseFieldDescriptor (TX6 k).2.2.1 = some (tyX6 k) := by decide +kernel
abbrev cX6_in : ByteArray := prog_8_method_2_code
def yX6_in : MethodName := ⟨RX6, "in", "(JJJ)Z"⟩
abbrev cX6_init : ByteArray := prog_8_method_3_code
def yX6_init : MethodName := ⟨RX6, "<init>", "()V"⟩
abbrev cX6_begins : ByteArray := prog_8_method_4_code
def yX6_begins : MethodName := ⟨RX6, "begins", "(I)V"⟩
abbrev cX6_refuses : ByteArray := prog_8_method_5_code
def yX6_refuses : MethodName := ⟨RX6, "refuses", "(II)I"⟩
abbrev cX6_bad : ByteArray := prog_8_method_6_code
def yX6_bad : MethodName := ⟨RX6, "bad", "()I"⟩
abbrev cX6_no : ByteArray := prog_8_method_7_code
def yX6_no : MethodName := ⟨RX6, "no", "()I"⟩
abbrev cX6_full : ByteArray := prog_8_method_8_code
def yX6_full : MethodName := ⟨RX6, "full", "()I"⟩
abbrev cX6_isDrawer : ByteArray := prog_8_method_9_code
def yX6_isDrawer : MethodName := ⟨RX6, "isDrawer", "(I)Z"⟩
abbrev cX6_power : ByteArray := prog_8_method_10_code
def yX6_power : MethodName := ⟨RX6, "power", "(I)I"⟩
abbrev cX6_states : ByteArray := prog_8_method_11_code
def yX6_states : MethodName := ⟨RX6, "states", "()I"⟩
abbrev cX6_outIn : ByteArray := prog_8_method_12_code
def yX6_outIn : MethodName := ⟨RX6, "outIn", "(II)I"⟩
abbrev cX6_isBeside : ByteArray := prog_8_method_13_code
def yX6_isBeside : MethodName := ⟨RX6, "isBeside", "(II)Z"⟩
abbrev cX6_amount : ByteArray := prog_8_method_14_code
def yX6_amount : MethodName := ⟨RX6, "amount", "(IIZ)I"⟩
abbrev cX6_pulled : ByteArray := prog_8_method_15_code
def yX6_pulled : MethodName := ⟨RX6, "pulled", "(III)I"⟩
abbrev cX6_allCords : ByteArray := prog_8_method_16_code
def yX6_allCords : MethodName := ⟨RX6, "allCords", "()I"⟩
abbrev cX6_wall : ByteArray := prog_8_method_17_code
def yX6_wall : MethodName := ⟨RX6, "wall", "(I)I"⟩
abbrev cX6_ties : ByteArray := prog_8_method_18_code
def yX6_ties : MethodName := ⟨RX6, "ties", "(IIII)V"⟩
abbrev cX6_cord : ByteArray := prog_8_method_19_code
def yX6_cord : MethodName := ⟨RX6, "cord", "(IIII)I"⟩
abbrev cX6_caught : ByteArray := prog_8_method_20_code
def yX6_caught : MethodName := ⟨RX6, "caught", "(IZ)I"⟩
abbrev cX6_good : ByteArray := prog_8_method_21_code
def yX6_good : MethodName := ⟨RX6, "good", "(II)I"⟩
abbrev cX6_put : ByteArray := prog_8_method_22_code
def yX6_put : MethodName := ⟨RX6, "put", "(II)I"⟩
abbrev cX6_order : ByteArray := prog_8_method_23_code
def yX6_order : MethodName := ⟨RX6, "order", "(I)I"⟩
abbrev cX6_type : ByteArray := prog_8_method_24_code
def yX6_type : MethodName := ⟨RX6, "type", "(JI)I"⟩
abbrev cX6_clear : ByteArray := prog_8_method_25_code
def yX6_clear : MethodName := ⟨RX6, "clear", "()I"⟩
abbrev cX6_isAt : ByteArray := prog_8_method_26_code
def yX6_isAt : MethodName := ⟨RX6, "isAt", "(II)Z"⟩
abbrev cX6_verbOf : ByteArray := prog_8_method_27_code
def yX6_verbOf : MethodName := ⟨RX6, "verbOf", "(J)I"⟩
abbrev cX6_scans : ByteArray := prog_8_method_28_code
def yX6_scans : MethodName := ⟨RX6, "scans", "()V"⟩
abbrev cX6_reads : ByteArray := prog_8_method_29_code
def yX6_reads : MethodName := ⟨RX6, "reads", "()Z"⟩
abbrev cX6_tellsItem : ByteArray := prog_8_method_30_code
def yX6_tellsItem : MethodName := ⟨RX6, "tellsItem", "(I)Z"⟩
abbrev cX6_read : ByteArray := prog_8_method_31_code
def yX6_read : MethodName := ⟨RX6, "read", "()I"⟩
abbrev cX6_pull : ByteArray := prog_8_method_32_code
def yX6_pull : MethodName := ⟨RX6, "pull", "(I)I"⟩
abbrev cX6_undo : ByteArray := prog_8_method_33_code
def yX6_undo : MethodName := ⟨RX6, "undo", "()I"⟩
abbrev cX6_isState : ByteArray := prog_8_method_34_code
def yX6_isState : MethodName := ⟨RX6, "isState", "(I)Z"⟩
abbrev cX6_behind : ByteArray := prog_8_method_35_code
def yX6_behind : MethodName := ⟨RX6, "behind", "(II)I"⟩
abbrev cX6_out : ByteArray := prog_8_method_36_code
def yX6_out : MethodName := ⟨RX6, "out", "(I)I"⟩
abbrev cX6_lays : ByteArray := prog_8_method_37_code
def yX6_lays : MethodName := ⟨RX6, "lays", "()V"⟩
abbrev cX6_isDanger : ByteArray := prog_8_method_38_code
def yX6_isDanger : MethodName := ⟨RX6, "isDanger", "(I)Z"⟩
abbrev cX6_isEnd : ByteArray := prog_8_method_39_code
def yX6_isEnd : MethodName := ⟨RX6, "isEnd", "(III)Z"⟩
abbrev cX6_reckons : ByteArray := prog_8_method_40_code
def yX6_reckons : MethodName := ⟨RX6, "reckons", "(IIZ)V"⟩
abbrev cX6_next : ByteArray := prog_8_method_41_code
def yX6_next : MethodName := ⟨RX6, "next", "(I)I"⟩
abbrev cX6_rows : ByteArray := prog_8_method_42_code
def yX6_rows : MethodName := ⟨RX6, "rows", "(IIIZ)I"⟩
abbrev cX6_pulls : ByteArray := prog_8_method_43_code
def yX6_pulls : MethodName := ⟨RX6, "pulls", "(III)I"⟩
abbrev cX6_safe : ByteArray := prog_8_method_44_code
def yX6_safe : MethodName := ⟨RX6, "safe", "(III)I"⟩
abbrev cX6_goes : ByteArray := prog_8_method_45_code
def yX6_goes : MethodName := ⟨RX6, "goes", "(I)V"⟩
abbrev cX6_reach : ByteArray := prog_8_method_46_code
def yX6_reach : MethodName := ⟨RX6, "reach", "(I)I"⟩
abbrev cX6_sumBy : ByteArray := prog_8_method_47_code
def yX6_sumBy : MethodName := ⟨RX6, "sumBy", "(II)I"⟩
abbrev cX6_kept : ByteArray := prog_8_method_48_code
def yX6_kept : MethodName := ⟨RX6, "kept", "()I"⟩
abbrev cX6_cut : ByteArray := prog_8_method_49_code
def yX6_cut : MethodName := ⟨RX6, "cut", "()I"⟩
abbrev cX6_opens : ByteArray := prog_8_method_50_code
def yX6_opens : MethodName := ⟨RX6, "opens", "()I"⟩
abbrev cX6_tie : ByteArray := prog_8_method_51_code
def yX6_tie : MethodName := ⟨RX6, "tie", "()I"⟩
abbrev cX6_days : ByteArray := prog_8_method_52_code
def yX6_days : MethodName := ⟨RX6, "days", "()I"⟩
abbrev cX6_day : ByteArray := prog_8_method_53_code
def yX6_day : MethodName := ⟨RX6, "day", "(I)I"⟩
abbrev cX6_swaps : ByteArray := prog_8_method_54_code
def yX6_swaps : MethodName := ⟨RX6, "swaps", "(II)V"⟩
abbrev cX6_laid : ByteArray := prog_8_method_55_code
def yX6_laid : MethodName := ⟨RX6, "laid", "()I"⟩
abbrev cX6_danger : ByteArray := prog_8_method_56_code
def yX6_danger : MethodName := ⟨RX6, "danger", "(I)I"⟩
abbrev cX6_sight : ByteArray := prog_8_method_57_code
def yX6_sight : MethodName := ⟨RX6, "sight", "(II)I"⟩
abbrev cX6_none : ByteArray := prog_8_method_58_code
def yX6_none : MethodName := ⟨RX6, "none", "(I)I"⟩
abbrev cX6_fits : ByteArray := prog_8_method_59_code
def yX6_fits : MethodName := ⟨RX6, "fits", "(I)I"⟩
abbrev cX6_image : ByteArray := prog_8_method_60_code
def yX6_image : MethodName := ⟨RX6, "image", "(I)I"⟩
abbrev cX6_from : ByteArray := prog_8_method_61_code
def yX6_from : MethodName := ⟨RX6, "from", "(I)I"⟩
abbrev cX6_status : ByteArray := prog_8_method_62_code
def yX6_status : MethodName := ⟨RX6, "status", "(I)I"⟩
abbrev cX6_countOf : ByteArray := prog_8_method_63_code
def yX6_countOf : MethodName := ⟨RX6, "countOf", "(I)I"⟩
abbrev cX6_count : ByteArray := prog_8_method_64_code
def yX6_count : MethodName := ⟨RX6, "count", "(I)I"⟩
abbrev cX6_mixed : ByteArray := prog_8_method_65_code
def yX6_mixed : MethodName := ⟨RX6, "mixed", "(JII)J"⟩
abbrev cX6_digest : ByteArray := prog_8_method_66_code
def yX6_digest : MethodName := ⟨RX6, "digest", "()J"⟩
def RJ6 : String := "java/lang/Integer"
def TJ6 : u_T := fun k => match k with
  | _ => ("", "", "", false)
def tyJ6 : Nat → FieldType := fun k => match k with
  | _ => .int
abbrev wsJ60 : List Cond := u_ws RJ6 TJ6 0
theorem nmJ6 : ∀ a, a < 0 → ∀ b, b < 0 → a ≠ b → (TJ6 a).2.1 ≠ (TJ6 b).2.1 := by decide +kernel
theorem tyJ6_ok : ∀ k, k < 0 → parseFieldDescriptor (TJ6 k).2.2.1 = some (tyJ6 k) := by decide +kernel
abbrev cJ6_numberOfTrailingZeros_0f7a4 : ByteArray := prog_9_method_48_code
def yJ6_numberOfTrailingZeros_0f7a4 : MethodName := ⟨RJ6, "numberOfTrailingZeros", "(I)I"⟩
abbrev cJ6_bitCount_0f7a4 : ByteArray := prog_9_method_49_code
def yJ6_bitCount_0f7a4 : MethodName := ⟨RJ6, "bitCount", "(I)I"⟩
def RJ9 : String := "java/lang/Math"
def TJ9 : u_T := fun k => match k with
  | _ => ("", "", "", false)
def tyJ9 : Nat → FieldType := fun k => match k with
  | _ => .int
abbrev wsJ90 : List Cond := u_ws RJ9 TJ9 0
theorem nmJ9 : ∀ a, a < 0 → ∀ b, b < 0 → a ≠ b → (TJ9 a).2.1 ≠ (TJ9 b).2.1 := by decide +kernel
theorem tyJ9_ok : ∀ k, k < 0 → parseFieldDescriptor (TJ9 k).2.2.1 = some (tyJ9 k) := by decide +kernel
abbrev cJ9_max_7cf53 : ByteArray := prog_10_method_65_code
def yJ9_max_7cf53 : MethodName := ⟨RJ9, "max", "(II)I"⟩
abbrev cJ9_min_7cf53 : ByteArray := prog_10_method_69_code
def yJ9_min_7cf53 : MethodName := ⟨RJ9, "min", "(II)I"⟩
def RJ0 : String := "java/lang/String"
def TJ0 : u_T := fun k => match k with
  | _ => ("", "", "", false)
def tyJ0 : Nat → FieldType := fun k => match k with
  | _ => .int
abbrev wsJ00 : List Cond := u_ws RJ0 TJ0 0
theorem nmJ0 : ∀ a, a < 0 → ∀ b, b < 0 → a ≠ b → (TJ0 a).2.1 ≠ (TJ0 b).2.1 := by decide +kernel
theorem tyJ0_ok : ∀ k, k < 0 → parseFieldDescriptor (TJ0 k).2.2.1 = some (tyJ0 k) := by decide +kernel
abbrev cJ0_length_8abf5 : ByteArray := prog_11_method_54_code
def yJ0_length_8abf5 : MethodName := ⟨RJ0, "length", "()I"⟩
abbrev cJ0_charAt_5068e : ByteArray := prog_11_method_56_code
def yJ0_charAt_5068e : MethodName := ⟨RJ0, "charAt", "(I)C"⟩
abbrev cJ0_coder_7d493 : ByteArray := prog_11_method_152_code
def yJ0_coder_7d493 : MethodName := ⟨RJ0, "coder", "()B"⟩
abbrev cJ0_isLatin1_aae02 : ByteArray := prog_11_method_154_code
def yJ0_isLatin1_aae02 : MethodName := ⟨RJ0, "isLatin1", "()Z"⟩
abbrev cJ0_checkIndex_df160 : ByteArray := prog_11_method_155_code
def yJ0_checkIndex_df160 : MethodName := ⟨RJ0, "checkIndex", "(II)V"⟩
def RJ1 : String := "java/lang/StringLatin1"
def TJ1 : u_T := fun k => match k with
  | _ => ("", "", "", false)
def tyJ1 : Nat → FieldType := fun k => match k with
  | _ => .int
abbrev wsJ10 : List Cond := u_ws RJ1 TJ1 0
theorem nmJ1 : ∀ a, a < 0 → ∀ b, b < 0 → a ≠ b → (TJ1 a).2.1 ≠ (TJ1 b).2.1 := by decide +kernel
theorem tyJ1_ok : ∀ k, k < 0 → parseFieldDescriptor (TJ1 k).2.2.1 = some (tyJ1 k) := by decide +kernel
abbrev cJ1_charAt_3b067 : ByteArray := prog_12_method_2_code
def yJ1_charAt_3b067 : MethodName := ⟨RJ1, "charAt", "([BI)C"⟩
def RJ2 : String := "java/lang/StringUTF16"
def TJ2 : u_T := fun k => match k with
  | _ => ("", "", "", false)
def tyJ2 : Nat → FieldType := fun k => match k with
  | _ => .int
abbrev wsJ20 : List Cond := u_ws RJ2 TJ2 0
theorem nmJ2 : ∀ a, a < 0 → ∀ b, b < 0 → a ≠ b → (TJ2 a).2.1 ≠ (TJ2 b).2.1 := by decide +kernel
theorem tyJ2_ok : ∀ k, k < 0 → parseFieldDescriptor (TJ2 k).2.2.1 = some (tyJ2 k) := by decide +kernel
abbrev cJ2_getChar_3b067 : ByteArray := prog_13_method_5_code
def yJ2_getChar_3b067 : MethodName := ⟨RJ2, "getChar", "([BI)C"⟩
abbrev cJ2_length_9d52b : ByteArray := prog_13_method_6_code
def yJ2_length_9d52b : MethodName := ⟨RJ2, "length", "([B)I"⟩
abbrev cJ2_charAt_3b067 : ByteArray := prog_13_method_83_code
def yJ2_charAt_3b067 : MethodName := ⟨RJ2, "charAt", "([BI)C"⟩
abbrev cJ2_checkIndex_2214a : ByteArray := prog_13_method_91_code
def yJ2_checkIndex_2214a : MethodName := ⟨RJ2, "checkIndex", "(I[B)V"⟩
def RJ3 : String := "jdk/internal/util/Preconditions"
def TJ3 : u_T := fun k => match k with
  | _ => ("", "", "", false)
def tyJ3 : Nat → FieldType := fun k => match k with
  | _ => .int
abbrev wsJ30 : List Cond := u_ws RJ3 TJ3 0
theorem nmJ3 : ∀ a, a < 0 → ∀ b, b < 0 → a ≠ b → (TJ3 a).2.1 ≠ (TJ3 b).2.1 := by decide +kernel
theorem tyJ3_ok : ∀ k, k < 0 → parseFieldDescriptor (TJ3 k).2.2.1 = some (tyJ3 k) := by decide +kernel
abbrev cJ3_checkIndex_8e157 : ByteArray := prog_14_method_11_code
def yJ3_checkIndex_8e157 : MethodName := ⟨RJ3, "checkIndex", "(IILjava/util/function/BiFunction;)I"⟩
def RL : String := "DrawerWallLaw"
abbrev cL_law : ByteArray := code
def yL_law : MethodName := ⟨RL, "law", "([I)Z"⟩
abbrev vwCl : List vw_C := [(RX0, TX0, 2), (RX1, TX1, 5), (RX2, TX2, 2), (RX3, TX3, 11), (RX4, TX4, 14), (RX5, TX5, 15), (RX6, TX6, 20)]
end
section
/-! ===== whole numbers of the machine as integers ===== -/
def iI (z : Int) : Int32 := Int32.ofInt z
def lI (z : Int) : Int64 := Int64.ofInt z
abbrev vI (z : Int) : Value := .int (iI z)
abbrev vJ (z : Int) : Value := .long (lI z)
abbrev inR (z : Int) : Prop := -2147483648 ≤ z ∧ z ≤ 2147483647
theorem iI_add (a b : Int) : iI a + iI b = iI (a + b) := (Int32.ofInt_add a b).symm
theorem iI_sub (a b : Int) : iI a - iI b = iI (a - b) := (Int32.ofInt_sub a b).symm
theorem iI_mul (a b : Int) : iI a * iI b = iI (a * b) := (Int32.ofInt_mul a b).symm
theorem iI_neg (a : Int) : -iI a = iI (-a) := (Int32.ofInt_neg a).symm
theorem lI_add (a b : Int) : lI a + lI b = lI (a + b) := (Int64.ofInt_add a b).symm
theorem lI_sub (a b : Int) : lI a - lI b = lI (a - b) := (Int64.ofInt_sub a b).symm
theorem lI_mul (a b : Int) : lI a * lI b = lI (a * b) := (Int64.ofInt_mul a b).symm
theorem iI_toInt {a : Int} (h : inR a) : (iI a).toInt = a := Int32.toInt_ofInt_of_le (by omega) (by omega)
theorem lI_toInt {a : Int} (h : -9223372036854775808 ≤ a ∧ a < 9223372036854775808) : (lI a).toInt = a := Int64.toInt_ofInt_of_le (by omega) (by omega)
theorem iI_rng (x : Int32) : inR x.toInt := ⟨Int32.le_toInt x, by have := Int32.toInt_lt x; omega⟩
theorem iI_of (x : Int32) : ∃ z, inR z ∧ x = iI z := ⟨x.toInt, iI_rng x, (Int32.ofInt_toInt x).symm⟩
theorem iI_self (x : Int32) : iI x.toInt = x := Int32.ofInt_toInt x
theorem iI_lt {a b : Int} (ha : inR a) (hb : inR b) : iI a < iI b ↔ a < b := by rw [Int32.lt_iff_toInt_lt, iI_toInt ha, iI_toInt hb]
theorem iI_le {a b : Int} (ha : inR a) (hb : inR b) : iI a ≤ iI b ↔ a ≤ b := by rw [Int32.le_iff_toInt_le, iI_toInt ha, iI_toInt hb]
theorem iI_eq {a b : Int} (ha : inR a) (hb : inR b) : iI a = iI b ↔ a = b := by rw [← Int32.toInt_inj, iI_toInt ha, iI_toInt hb]
theorem iI_clamp {a : Int} (h : inR a) : (iI a).toNatClampNeg = a.toNat := by
  show (iI a).toInt.toNat = _
  rw [iI_toInt h]
theorem iI_in {j : Int} {n : Nat} (h0 : 0 ≤ j) (h : j < n) (hn : n < 2 ^ 31) : vp_in (iI j) n := by
  rw [vp_in_iff, iI_toInt ⟨by omega, by omega⟩]
  exact ⟨h0, h⟩
theorem iI_0 : (0 : Int32) = iI 0 := rfl
theorem iI_ne0 {a : Int} (ha : inR a) : iI a = 0 ↔ a = 0 := by rw [iI_0]; exact iI_eq ha ⟨by decide, by decide⟩
theorem iI_tdiv {a b : Int} (ha : inR a) (hb : inR b) (hb1 : b ≠ -1) : iI a / iI b = iI (a.tdiv b) := by
  have h := Int32.toInt_div_of_ne_right (iI a) (iI b) (by intro h; apply hb1; have := congrArg Int32.toInt h; rw [iI_toInt hb] at this; exact this)
  rw [iI_toInt ha, iI_toInt hb] at h
  rw [← iI_self (iI a / iI b), h]
theorem iI_div {a b : Int} (ha : inR a) (h0 : 0 ≤ a) (hb : inR b) (hb0 : 0 < b) : iI a / iI b = iI (a / b) := by
  rw [iI_tdiv ha hb (by omega), Int.tdiv_eq_ediv_of_nonneg h0]
theorem iI_mod {a b : Int} (ha : inR a) (h0 : 0 ≤ a) (hb : inR b) (hb0 : 0 < b) : iI a - iI a / iI b * iI b = iI (a % b) := by
  rw [iI_div ha h0 hb hb0, iI_mul, iI_sub]
  congr 1
  have := Int.emod_add_mul_ediv a b
  have e : a / b * b = b * (a / b) := Int.mul_comm _ _
  omega
theorem iI_long {a : Int} (h : inR a) : (iI a).toInt64 = lI a := Int32.toInt64_ofInt (by exact h.1) (by exact h.2)
theorem lI_int (a : Int) : (lI a).toInt32 = iI a := Int64.toInt32_ofInt
theorem lI_lt {a b : Int} (ha : -9223372036854775808 ≤ a ∧ a < 9223372036854775808) (hb : -9223372036854775808 ≤ b ∧ b < 9223372036854775808) : lI a < lI b ↔ a < b := by rw [Int64.lt_iff_toInt_lt, lI_toInt ha, lI_toInt hb]
theorem lI_eq {a b : Int} (ha : -9223372036854775808 ≤ a ∧ a < 9223372036854775808) (hb : -9223372036854775808 ≤ b ∧ b < 9223372036854775808) : lI a = lI b ↔ a = b := by rw [← Int64.toInt_inj, lI_toInt ha, lI_toInt hb]
theorem lI_of (x : Int64) : ∃ z, (-9223372036854775808 ≤ z ∧ z < 9223372036854775808) ∧ x = lI z := ⟨x.toInt, ⟨Int64.le_toInt x, Int64.toInt_lt x⟩, (Int64.ofInt_toInt x).symm⟩
theorem nI_iI (n : Nat) : nI n = iI n := Int32.ofInt_eq_ofNat.symm
theorem iI_8 {n : Int} (h : -128 ≤ n ∧ n ≤ 127) : (Int8.ofInt n).toInt32 = iI n := Int8.toInt32_ofInt (by exact h.1) (by exact h.2)
theorem iI_16 {n : Int} (h : -32768 ≤ n ∧ n ≤ 32767) : (Int16.ofInt n).toInt32 = iI n := Int16.toInt32_ofInt (by exact h.1) (by exact h.2)
theorem lI_nat (n : Nat) : Int64.ofNat n = lI n := Int64.ofInt_eq_ofNat.symm
/-- a function changed at one place -/
theorem aI_upd (f : Nat → Int) (k : Nat) (z : Int) : upd (fun j => iI (f j)) k (iI z) = fun j => iI (va_up f k z j) := by
  funext j
  by_cases h : j = k <;> simp [upd, va_up, h]
end
section
/-! ===== the abstract machine: worlds by places, one judgement a frame ===== -/
def vU : List Cond := lw_tbl.filter goodWord
theorem vU_mem (i : Nat) {w : Cond} (h : lw_tbl[i]? = some w) (g : goodWord w = true) : w ∈ vU := List.mem_filter.mpr ⟨List.mem_of_getElem? h, g⟩
theorem vU_good : GoodIn vU vU := fun w h => ⟨h, good_of_word (List.mem_filter.mp h).2⟩
def isNest : Cond → Bool
  | .fieldLinkNest .. => true
  | .methodLinkNest .. => true
  | _ => false
def vNst (s : State) : Prop := ∀ w ∈ lw_tbl, isNest w = true → va_Nw w s
theorem vNst.warm {s U : State} (hW : s.WarmedH U.vm) (h : vNst s) : vNst U := by
  intro w hw hn
  have h1 := h w hw hn
  cases w <;> first | exact va_Nw.warmF hW h1 | exact va_Nw.warmM hW h1 | cases hn
theorem vNst.same {s U : State} (hv : s.vm = U.vm) (h : vNst s) : vNst U := by
  intro w hw hn
  have h1 := h w hw hn
  cases w <;> first | exact va_Nw.same rfl hv h1 | cases hn
/-- an address of the world -/
def fB (b : Nat) : Nat → Prop := fun q => b ≤ q
/-- the text constants: 'drawers', 'cord', 'catch', 'good', 'order' in Reader's pool -/
def cpS : Nat → Nat
  | 0 => 79
  | 1 => 85
  | 2 => 87
  | 3 => 89
  | _ => 91
def txS : Nat → String
  | 0 => "drawers"
  | 1 => "cord"
  | 2 => "catch"
  | 3 => "good"
  | _ => "order"
def bytS : List (List Int32) := [[100, 114, 97, 119, 101, 114, 115], [99, 111, 114, 100], [99, 97, 116, 99, 104], [103, 111, 111, 100], [111, 114, 100, 101, 114]]
def lenS : List Nat := [7, 4, 5, 4, 5]
def vStr (b : Nat) (sa : Nat → Nat) (s : State) : Prop := (∃ adV : Nat → Nat, vk_S 5 lenS bytS sa adV (fB b) s s.heap) ∧ (∀ i, i < 5 → vk_R RX1 (cpS i) (txS i) (sa i) s) ∧ va_Z "java/lang/String" "COMPACT_STRINGS" "Z" (.int 1) (fB b) s s.heap ∧ va_Zq "jdk/internal/util/Preconditions" "SIOOBE_FORMATTER" "Ljava/util/function/BiFunction;" (fB b) s s.heap
theorem vStr.warm {b : Nat} {sa : Nat → Nat} {s U : State} (hW : s.WarmedH U.vm) (hq : ∀ a : Nat, a < s.heap.size → ¬ fB b a → U.heap[a]? = s.heap[a]?) (h : vStr b sa s) : vStr b sa U := by
  obtain ⟨⟨adV, h1⟩, h2, h3, h4⟩ := h
  exact ⟨⟨adV, (h1.moved hW.alike).kept hq⟩, fun i hi => (h2 i hi).warm hW, (h3.moved hW.alike).kept hq, (h4.moved hW.alike).kept hq⟩
theorem vStr.same {b : Nat} {sa : Nat → Nat} {s U : State} (hv : U.vm = s.vm) (hh : U.heap = s.heap) (h : vStr b sa s) : vStr b sa U := by
  obtain ⟨⟨adV, h1⟩, h2, h3, h4⟩ := h
  have ha : s.vm.Alike U.vm := by rw [hv]; exact Vm.Alike.refl s.vm
  rw [vStr, hh]
  exact ⟨⟨adV, h1.moved ha⟩, fun i hi => (h2 i hi).same hv, h3.moved ha, h4.moved ha⟩
/-! worlds -/
abbrev vWd : Type := Nat → Option va_E
def cvV (b : Nat) (sa : Nat → Nat) : Value → Value
  | .ref k => .ref (b + k)
  | .retAddr k => .ref (sa k)
  | .int x => .int x
  | .long x => .long x
  | .float x => .float x
  | .double x => .double x
  | .null => .null
theorem cvV_cat (b : Nat) (sa : Nat → Nat) (v : Value) : (cvV b sa v).category = v.category := by cases v <;> rfl
def cvE (b : Nat) (sa cA : Nat → Nat) : va_E → va_E
  | .inl (t, a) => .inl (cA t, a)
  | .inr (ci, fs) => .inr (ci, fs.map (cvV b sa))
def wOK (b : Nat) (sa cA : Nat → Nat) (D : va_G) (n : Nat) (w : vWd) (H : Heap) : Prop :=
  H.size = b + n ∧ (∀ k, n ≤ k → w k = none) ∧ ∀ (k : Nat) (e : va_E), w k = some e → va_at D vwCl (b + k, cvE b sa cA e) H
theorem wOK.lt {b : Nat} {sa cA : Nat → Nat} {D : va_G} {n : Nat} {w : vWd} {H : Heap} (h : wOK b sa cA D n w H) {k : Nat} {e : va_E} (hk : w k = some e) : k < n := by
  rcases Nat.lt_or_ge k n with q | q
  · exact q
  · rw [h.2.1 k q] at hk; cases hk
theorem wOK.P {b : Nat} {sa cA : Nat → Nat} {D : va_G} {n : Nat} {w : vWd} {H : Heap} (h : wOK b sa cA D n w H) {k : Nat} {e : va_E} (hk : w k = some e) : va_P D vwCl [(b + k, cvE b sa cA e)] H := by
  intro i q hq
  have hz : i < 1 := (List.getElem?_eq_some_iff.mp hq).1
  rw [show i = 0 by omega] at hq
  cases hq
  exact h.2.2 k e hk
/-- one cell anew -/
theorem wOK.set {b : Nat} {sa cA : Nat → Nat} {D : va_G} {n : Nat} {w : vWd} {H H' : Heap} (h : wOK b sa cA D n w H) {k : Nat} {e e' : va_E} (hk : w k = some e) (hz : H'.size = H.size) (hn : va_at D vwCl (b + k, cvE b sa cA e') H') (ho : ∀ q, q ≠ b + k → H'[q]? = H[q]?) : wOK b sa cA D n (va_up w k (some e')) H' := by
  have hl := h.lt hk
  refine ⟨hz.trans h.1, fun j hj => ?_, fun j x hx => ?_⟩
  · rw [va_up_ne _ _ (by omega)]; exact h.2.1 j hj
  · by_cases hj : j = k
    · subst hj
      rw [va_up_self] at hx
      cases hx
      exact hn
    · rw [va_up_ne _ _ hj] at hx
      exact (h.2.2 j x hx).kept (ho (b + j) (by omega))
/-- one cell more -/
theorem wOK.push {b : Nat} {sa cA : Nat → Nat} {D : va_G} {n : Nat} {w : vWd} {H H' : Heap} (h : wOK b sa cA D n w H) {e' : va_E} (hz : H'.size = H.size + 1) (hn : va_at D vwCl (b + n, cvE b sa cA e') H') (ho : ∀ q, q < H.size → H'[q]? = H[q]?) : wOK b sa cA D (n + 1) (va_up w n (some e')) H' := by
  refine ⟨by rw [hz, h.1]; omega, fun j hj => ?_, fun j x hx => ?_⟩
  · rw [va_up_ne _ _ (by omega)]; exact h.2.1 j (by omega)
  · by_cases hj : j = n
    · subst hj
      rw [va_up_self] at hx
      cases hx
      exact hn
    · rw [va_up_ne _ _ hj] at hx
      have hl := h.lt hx
      exact (h.2.2 j x hx).kept (ho (b + j) (by rw [h.1]; omega))
/-! the judgement -/
abbrev vMeth : Type := MethodName × ByteArray × Nat × Option FieldType
abbrev vTy (cA : Nat → Nat) : List (ClassId × FieldType) := [(cA 0, .int), (cA 1, .boolean)]
def vEnv (Y : vMeth) (p : Program) (s : State) (m : MethodId) (args : Array Value) (meth : Method) (c : Code) (b : Nat) (sa cA : Nat → Nat) (D : va_G) : Prop :=
  p.tables.exec = Jvm.exec ∧ c.code = Y.2.1 ∧ meth.sig.returnType = Y.2.2.2 ∧ c.maxLocals = Y.2.2.1 ∧ s.vm.findClass Y.1.cls = some m.cls ∧ (∀ w ∈ vU, w.before args s = true) ∧ meth.name = Y.1.name ∧ meth.locks = false ∧ va_K D vwCl (vTy cA) s ∧ vStr b sa s ∧ vNst s
def vPre (b : Nat) (sa cA : Nat → Nat) (D : va_G) (n : Nat) (w : vWd) (U : State) : Prop := wOK b sa cA D n w U.heap ∧ va_K D vwCl (vTy cA) U ∧ vStr b sa U ∧ vNst U
def vPost : Type := Option Value → Nat → vWd → Prop
def vZ (b : Nat) (sa cA : Nat → Nat) (D : va_G) (Q : vPost) : Array Value → State → Outcome → State → Prop := fun _ st oc t =>
  (∃ (r : Option Value) (n' : Nat) (w' : vWd), oc = .returned (r.map (cvV b sa)) ∧ Q r n' w' ∧ wOK b sa cA D n' w' t.heap) ∧ va_F (fB b) st t
abbrev vLs : Type := List (Option Value)
def lvOK (b : Nat) (sa : Nat → Nat) (ls : Array Slot) (nL : Nat) (lv : vLs) : Prop := ls.size = nL ∧ lv_wf ls ∧ ∀ (i : Nat) (v : Value), lv[i]? = some (some v) → ls[i]? = some (.val (cvV b sa v))
def V (Y : vMeth) (R : Room) (Q : vPost) (pc : Nat) (lv : vLs) (st : List Value) (n : Nat) (w : vWd) (kc ks : Nat) : Prop :=
  ∀ (p : Program) (l : Launch) (e : Env) (s : State) (m : MethodId) (args : Array Value) (below : List Frame) (meth : Method) (c : Code) (b : Nat) (sa cA : Nat → Nat) (D : va_G) (H : Heap) (locs : List Loc) (ls : Array Slot),
    vEnv Y p s m args meth c b sa cA D → wOK b sa cA D n w H → va_S (fB b) s.heap H locs → b ≤ s.heap.size → lvOK b sa ls Y.2.2.1 lv →
    W p l e R s m args below meth c H locs kc ks (MQ below (vZ b sa cA D Q) args s R.cells R.slots (fB b)) (F0 m pc ls (st.map (cvV b sa)))
def Ctr (Y : vMeth) (R : Room) (av : List Value) (n : Nat) (w : vWd) (Q : vPost) : Prop :=
  ∀ (l : Launch) (b : Nat) (sa cA : Nat → Nat) (D : va_G), Met l Y.1 (Cond.code Y.1 Y.2.1 Y.2.2.1 Y.2.2.2 :: vU) R (va_Pc (av.map (cvV b sa)) (vPre b sa cA D n w)) (vZ b sa cA D Q) R.cells R.slots (fB b)
/-! locals -/
def prL (b : Nat) (sa : Nat → Nat) (lv : vLs) : List (Nat × Value) := (List.range lv.length).filterMap (fun j => match lv[j]? with
  | some (some v) => some (j, cvV b sa v)
  | _ => none)
theorem prL_mem {b : Nat} {sa : Nat → Nat} {lv : vLs} {q : Nat × Value} : q ∈ prL b sa lv ↔ ∃ v, lv[q.1]? = some (some v) ∧ q.2 = cvV b sa v := by
  rw [prL, List.mem_filterMap]
  constructor
  · rintro ⟨j, hj, h⟩
    split at h
    next v hv => cases h; exact ⟨v, hv, rfl⟩
    next => cases h
  · rintro ⟨v, hv, h2⟩
    refine ⟨q.1, List.mem_range.mpr (List.getElem?_eq_some_iff.mp hv).1, ?_⟩
    rw [hv]
    show some (q.1, cvV b sa v) = some q
    rw [← h2]
theorem lvOK.has {b : Nat} {sa : Nat → Nat} {ls : Array Slot} {nL : Nat} {lv : vLs} (h : lvOK b sa ls nL lv) : lv_has ls nL (prL b sa lv) := by
  refine ⟨h.1, h.2.1, fun q hq => ?_⟩
  obtain ⟨v, h1, h2⟩ := prL_mem.mp hq
  rw [h2]
  exact h.2.2 _ _ h1
/-- may a value of one slot be stored at i: the slot before is no long's -/
def stOK (Y : vMeth) (lv : vLs) (i : Nat) : Bool := (match i with
  | 0 => true
  | j + 1 => match lv[j]? with
    | some (some v) => v.category == 1
    | _ => true) && decide (i < Y.2.2.1)
theorem stOK.lt {Y : vMeth} {lv : vLs} {i : Nat} (h : stOK Y lv i = true) : i < Y.2.2.1 := by
  simp only [stOK, Bool.and_eq_true, decide_eq_true_eq] at h
  exact h.2
theorem stOK.cat {Y : vMeth} {lv : vLs} {i : Nat} (h : stOK Y lv i = true) {j : Nat} {v : Value} (hj : j + 1 = i) (hv : lv[j]? = some (some v)) : v.category = 1 := by
  subst hj
  simp only [stOK, Bool.and_eq_true, decide_eq_true_eq, hv] at h
  simpa using h.1
theorem lvOK.set1 {Y : vMeth} {b : Nat} {sa : Nat → Nat} {ls : Array Slot} {lv : vLs} {i : Nat} {v : Value} (hi : stOK Y lv i = true) (h : lv_has ls Y.2.2.1 ((i, cvV b sa v) :: (prL b sa lv).filter (fun q => !(q.1 == i) && !(q.1 + 1 == i && q.2.category == 2)))) : lvOK b sa ls Y.2.2.1 (lv.set i (some v)) := by
  refine ⟨h.1, h.2.1, fun j x hx => ?_⟩
  by_cases hj : j = i
  · subst hj
    have hl : j < lv.length := by
      have := (List.getElem?_eq_some_iff.mp hx).1
      rwa [List.length_set] at this
    rw [List.getElem?_set_self hl] at hx
    cases hx
    exact h.2.2 (j, cvV b sa v) List.mem_cons_self
  · rw [List.getElem?_set_ne (Ne.symm hj)] at hx
    refine h.2.2 (j, cvV b sa x) (List.mem_cons_of_mem _ (List.mem_filter.mpr ⟨prL_mem.mpr ⟨x, hx, rfl⟩, ?_⟩))
    simp only [Bool.and_eq_true, Bool.not_eq_true', beq_eq_false_iff_ne, ne_eq, Bool.and_eq_false_iff, cvV_cat]
    refine ⟨hj, ?_⟩
    by_cases h1 : j + 1 = i
    · right; rw [stOK.cat hi h1 hx]; decide
    · left; exact h1
theorem lvOK.set2 {Y : vMeth} {b : Nat} {sa : Nat → Nat} {ls : Array Slot} {lv : vLs} {i : Nat} {v : Value} (hi : stOK Y lv i = true) (h : lv_has ls Y.2.2.1 ((i, cvV b sa v) :: (prL b sa lv).filter (fun q => !(q.1 == i) && (!(q.1 == i + 1) && !(q.1 + 1 == i && q.2.category == 2))))) : lvOK b sa ls Y.2.2.1 ((lv.set i (some v)).set (i + 1) none) := by
  refine ⟨h.1, h.2.1, fun j x hx => ?_⟩
  by_cases hj1 : j = i + 1
  · subst hj1
    by_cases hl : i + 1 < (lv.set i (some v)).length
    · rw [List.getElem?_set_self hl] at hx; cases hx
    · rw [List.getElem?_eq_none (by rw [List.length_set]; omega)] at hx; cases hx
  · rw [List.getElem?_set_ne (Ne.symm hj1)] at hx
    by_cases hj : j = i
    · subst hj
      have hl : j < lv.length := by
        have := (List.getElem?_eq_some_iff.mp hx).1
        rwa [List.length_set] at this
      rw [List.getElem?_set_self hl] at hx
      cases hx
      exact h.2.2 (j, cvV b sa v) List.mem_cons_self
    · rw [List.getElem?_set_ne (Ne.symm hj)] at hx
      refine h.2.2 (j, cvV b sa x) (List.mem_cons_of_mem _ (List.mem_filter.mpr ⟨prL_mem.mpr ⟨x, hx, rfl⟩, ?_⟩))
      simp only [Bool.and_eq_true, Bool.not_eq_true', beq_eq_false_iff_ne, ne_eq, Bool.and_eq_false_iff, cvV_cat]
      refine ⟨hj, hj1, ?_⟩
      by_cases h1 : j + 1 = i
      · right; rw [stOK.cat hi h1 hx]; decide
      · left; exact h1
def avL (av : List Value) : vLs := av.flatMap fun v => if v.category = 2 then [some v, none] else [some v]
theorem avL_args {b : Nat} {sa : Nat → Nat} : ∀ (av : List Value) (k i : Nat) (v : Value), (avL av)[i]? = some (some v) → (k + i, cvV b sa v) ∈ lv_args k (av.map (cvV b sa))
  | [], _, i, v, h => by simp [avL] at h
  | x :: av, k, i, v, h => by
    rw [List.map_cons, lv_args, cvV_cat]
    by_cases hc : x.category = 2
    · rw [if_pos hc]
      simp only [avL, List.flatMap_cons, if_pos hc] at h
      match i, h with
      | 0, h =>
        simp at h
        subst h
        exact List.mem_cons_self
      | 1, h => simp at h
      | i + 2, h =>
        simp at h
        have := avL_args (b := b) (sa := sa) av (k + 2) i v (by simpa [avL] using h)
        rw [show k + (i + 2) = k + 2 + i by omega]
        exact List.mem_cons_of_mem _ this
    · rw [if_neg hc]
      simp only [avL, List.flatMap_cons, if_neg hc] at h
      match i, h with
      | 0, h =>
        simp at h
        subst h
        exact List.mem_cons_self
      | i + 1, h =>
        simp at h
        have := avL_args (b := b) (sa := sa) av (k + 1) i v (by simpa [avL] using h)
        rw [show k + (i + 1) = k + 1 + i by omega]
        exact List.mem_cons_of_mem _ this
theorem lgsl_len (b : Nat) (sa : Nat → Nat) (av : List Value) : (lg_sl (av.map (cvV b sa))).length = (avL av).length := by
  induction av with
  | nil => rfl
  | cons x av ih =>
    simp only [lg_sl, avL, List.map_cons, List.flatMap_cons, List.length_append] at ih ⊢
    rw [ih, cvV_cat]
    by_cases hc : x.category = 2 <;> simp [hc]
/-- a contract out of the judgement at the entry -/
theorem Ctr_of {Y : vMeth} {R : Room} {av : List Value} {n : Nat} {w : vWd} {Q : vPost} {lv : vLs} (hy : plainName Y.1.cls = true) (hlv : avL av ++ List.replicate (Y.2.2.1 - (avL av).length) none = lv) (hle : Nat.ble (avL av).length Y.2.2.1 = true) (k : V Y R Q 0 lv [] n w 0 0) : Ctr Y R av n w Q := by
  intro l b sa cA D
  refine Met.ofW (cc := Y.2.1) (maxL := Y.2.2.1) (ret := Y.2.2.2) hy rfl ?_
  intro p e s m args below meth c s₁ B hml hv
  obtain ⟨rfl, hO, hK, hSt, hN⟩ := hv
  have hts := atoms_spec (ws := Cond.code Y.1 Y.2.1 Y.2.2.1 Y.2.2.2 :: vU) B.pre
  rw [lg_entry_eq]
  refine k p l e s m _ below meth c b sa cA D s.heap [] _ ⟨B.exec, B.bytes, B.returns, hml, findClass_of_methodNamed B.named, fun w hw => hts w (List.mem_cons_of_mem _ hw), (name_of_methodNamed B.named B.method).1, B.notSynchronized, hK, hSt, hN⟩ hO va_S.rf (by rw [hO.1]; omega) ?_
  have hl := lv_entry (av.map (cvV b sa)) (n := Y.2.2.1) (by rw [lgsl_len]; exact Nat.le_of_ble_eq_true hle)
  refine ⟨hl.1, hl.2.1, fun i v hi => ?_⟩
  rw [← hlv] at hi
  by_cases hlt : i < (avL av).length
  · rw [List.getElem?_append_left hlt] at hi
    have := avL_args (b := b) (sa := sa) av 0 i v hi
    rw [Nat.zero_add] at this
    exact hl.2.2 _ this
  · rw [List.getElem?_append_right (by omega)] at hi
    have := List.eq_of_mem_replicate (List.mem_of_getElem? hi)
    cases this
end
section
/-! ===== the rules, an instruction each ===== -/
section VRULES
variable {Y : vMeth} {R : Room} {Q : vPost} {pc : Nat} {lv : vLs} {st : List Value} {n : Nat} {w : vWd} {kc ks : Nat}
theorem V_iconst {z : Int} (hd : decode Y.2.1 pc = .ok (.iconst z, 1)) (k : V Y R Q (pc + 1) lv (vI z :: st) n w kc ks) : V Y R Q pc lv st n w kc ks := by
  intro p l e s m args below meth c b sa cA D H locs ls E hw hS hb hl
  exact lv_iconst E.1 E.2.1 hd rfl (k p l e s m args below meth c b sa cA D H locs ls E hw hS hb hl)
theorem V_bipush {z : Int} (hd : decode Y.2.1 pc = .ok (.bipush z, 2)) (hz : -128 ≤ z ∧ z ≤ 127) (k : V Y R Q (pc + 2) lv (vI z :: st) n w kc ks) : V Y R Q pc lv st n w kc ks := by
  intro p l e s m args below meth c b sa cA D H locs ls E hw hS hb hl
  exact lv_bipush E.1 E.2.1 hd (iI_8 hz) (k p l e s m args below meth c b sa cA D H locs ls E hw hS hb hl)
theorem V_sipush {z : Int} (hd : decode Y.2.1 pc = .ok (.sipush z, 3)) (hz : -32768 ≤ z ∧ z ≤ 32767) (k : V Y R Q (pc + 3) lv (vI z :: st) n w kc ks) : V Y R Q pc lv st n w kc ks := by
  intro p l e s m args below meth c b sa cA D H locs ls E hw hS hb hl
  exact lv_sipush E.1 E.2.1 hd (iI_16 hz) (k p l e s m args below meth c b sa cA D H locs ls E hw hS hb hl)
theorem V_lconst {z : Fin 2} (hd : decode Y.2.1 pc = .ok (.lconst z, 1)) (k : V Y R Q (pc + 1) lv (vJ ((z : Nat) : Int) :: st) n w kc ks) : V Y R Q pc lv st n w kc ks := by
  intro p l e s m args below meth c b sa cA D H locs ls E hw hS hb hl
  exact lv_lconst E.1 E.2.1 hd (lI_nat _) (k p l e s m args below meth c b sa cA D H locs ls E hw hS hb hl)
theorem V_ldc2 {ix : Nat} {v : Int64} {z : Int} (hd : decode Y.2.1 pc = .ok (.ldc2_w ix, 3)) (hw0 : Cond.constantLong Y.1.cls ix v ∈ vU) (hz : v = lI z) (k : V Y R Q (pc + 3) lv (vJ z :: st) n w kc ks) : V Y R Q pc lv st n w kc ks := by
  intro p l e s m args below meth c b sa cA D H locs ls E hw hS hb hl
  subst hz
  exact lv_ldc2 E.1 E.2.1 E.2.2.2.2.1 (E.2.2.2.2.2.1 _ hw0) hd (k p l e s m args below meth c b sa cA D H locs ls E hw hS hb hl)
theorem V_ldcw {ix : Nat} {v : Int32} (hd : decode Y.2.1 pc = .ok (.ldc_w ix, 3)) (hw0 : Cond.constant Y.1.cls ix v ∈ vU) (k : V Y R Q (pc + 3) lv (.int v :: st) n w kc ks) : V Y R Q pc lv st n w kc ks := by
  intro p l e s m args below meth c b sa cA D H locs ls E hw hS hb hl
  exact lv_ldcw E.1 E.2.1 E.2.2.2.2.1 (E.2.2.2.2.2.1 _ hw0) hd (k p l e s m args below meth c b sa cA D H locs ls E hw hS hb hl)
theorem V_iload {i : Nat} {x : Int32} (hd : decode Y.2.1 pc = .ok (.iload i, 2)) (hi : lv[i]? = some (some (.int x))) (k : V Y R Q (pc + 2) lv (.int x :: st) n w kc ks) : V Y R Q pc lv st n w kc ks := by
  intro p l e s m args below meth c b sa cA D H locs ls E hw hS hb hl
  exact lv_iload E.1 E.2.1 hd (hl.2.2 _ _ hi) (k p l e s m args below meth c b sa cA D H locs ls E hw hS hb hl)
theorem V_iload_n {i : Fin 4} {x : Int32} (hd : decode Y.2.1 pc = .ok (.iload_n i, 1)) (hi : lv[(i : Nat)]? = some (some (.int x))) (k : V Y R Q (pc + 1) lv (.int x :: st) n w kc ks) : V Y R Q pc lv st n w kc ks := by
  intro p l e s m args below meth c b sa cA D H locs ls E hw hS hb hl
  exact lv_iload_n E.1 E.2.1 hd rfl (hl.2.2 _ _ hi) (k p l e s m args below meth c b sa cA D H locs ls E hw hS hb hl)
theorem V_lload {i : Nat} {x : Int64} (hd : decode Y.2.1 pc = .ok (.lload i, 2)) (hi : lv[i]? = some (some (.long x))) (k : V Y R Q (pc + 2) lv (.long x :: st) n w kc ks) : V Y R Q pc lv st n w kc ks := by
  intro p l e s m args below meth c b sa cA D H locs ls E hw hS hb hl
  exact lv_lload E.1 E.2.1 hd (hl.2.2 _ _ hi) (k p l e s m args below meth c b sa cA D H locs ls E hw hS hb hl)
theorem V_lload_n {i : Fin 4} {x : Int64} (hd : decode Y.2.1 pc = .ok (.lload_n i, 1)) (hi : lv[(i : Nat)]? = some (some (.long x))) (k : V Y R Q (pc + 1) lv (.long x :: st) n w kc ks) : V Y R Q pc lv st n w kc ks := by
  intro p l e s m args below meth c b sa cA D H locs ls E hw hS hb hl
  exact lv_lload_n E.1 E.2.1 hd rfl (hl.2.2 _ _ hi) (k p l e s m args below meth c b sa cA D H locs ls E hw hS hb hl)
theorem V_aload {i : Nat} {x : Nat} (hd : decode Y.2.1 pc = .ok (.aload i, 2)) (hi : lv[i]? = some (some (.ref x))) (k : V Y R Q (pc + 2) lv (.ref x :: st) n w kc ks) : V Y R Q pc lv st n w kc ks := by
  intro p l e s m args below meth c b sa cA D H locs ls E hw hS hb hl
  exact lv_aload E.1 E.2.1 hd (hl.2.2 _ _ hi) (k p l e s m args below meth c b sa cA D H locs ls E hw hS hb hl)
theorem V_aload_n {i : Fin 4} {x : Nat} (hd : decode Y.2.1 pc = .ok (.aload_n i, 1)) (hi : lv[(i : Nat)]? = some (some (.ref x))) (k : V Y R Q (pc + 1) lv (.ref x :: st) n w kc ks) : V Y R Q pc lv st n w kc ks := by
  intro p l e s m args below meth c b sa cA D H locs ls E hw hS hb hl
  exact lv_aload_n E.1 E.2.1 hd rfl (hl.2.2 _ _ hi) (k p l e s m args below meth c b sa cA D H locs ls E hw hS hb hl)
theorem V_aload_nS {i : Fin 4} {x : Nat} (hd : decode Y.2.1 pc = .ok (.aload_n i, 1)) (hi : lv[(i : Nat)]? = some (some (.retAddr x))) (k : V Y R Q (pc + 1) lv (.retAddr x :: st) n w kc ks) : V Y R Q pc lv st n w kc ks := by
  intro p l e s m args below meth c b sa cA D H locs ls E hw hS hb hl
  exact lv_aload_n E.1 E.2.1 hd rfl (hl.2.2 _ _ hi) (k p l e s m args below meth c b sa cA D H locs ls E hw hS hb hl)
theorem V_istore {i : Nat} {x : Int32} (hd : decode Y.2.1 pc = .ok (.istore i, 2)) (hi : stOK Y lv i = true) (k : V Y R Q (pc + 2) (lv.set i (some (.int x))) st n w kc ks) : V Y R Q pc lv (.int x :: st) n w kc ks := by
  intro p l e s m args below meth c b sa cA D H locs ls E hw hS hb hl
  exact lv_istore E.1 E.2.1 hd hl.has (stOK.lt hi) rfl (fun ls' h' => k p l e s m args below meth c b sa cA D H locs ls' E hw hS hb (lvOK.set1 hi h'))
theorem V_istore_n {i : Fin 4} {x : Int32} (hd : decode Y.2.1 pc = .ok (.istore_n i, 1)) (hi : stOK Y lv (i : Nat) = true) (k : V Y R Q (pc + 1) (lv.set (i : Nat) (some (.int x))) st n w kc ks) : V Y R Q pc lv (.int x :: st) n w kc ks := by
  intro p l e s m args below meth c b sa cA D H locs ls E hw hS hb hl
  exact lv_istore_n E.1 E.2.1 hd rfl hl.has (stOK.lt hi) rfl (fun ls' h' => k p l e s m args below meth c b sa cA D H locs ls' E hw hS hb (lvOK.set1 hi h'))
theorem V_astore_n {i : Fin 4} {x : Nat} (hd : decode Y.2.1 pc = .ok (.astore_n i, 1)) (hi : stOK Y lv (i : Nat) = true) (k : V Y R Q (pc + 1) (lv.set (i : Nat) (some (.ref x))) st n w kc ks) : V Y R Q pc lv (.ref x :: st) n w kc ks := by
  intro p l e s m args below meth c b sa cA D H locs ls E hw hS hb hl
  exact lv_astore_n E.1 E.2.1 hd rfl hl.has (stOK.lt hi) rfl (fun ls' h' => k p l e s m args below meth c b sa cA D H locs ls' E hw hS hb (lvOK.set1 hi h'))
theorem V_lstore {i : Nat} {x : Int64} (hd : decode Y.2.1 pc = .ok (.lstore i, 2)) (hi : stOK Y lv i = true) (hi2 : i + 1 < Y.2.2.1) (k : V Y R Q (pc + 2) ((lv.set i (some (.long x))).set (i + 1) none) st n w kc ks) : V Y R Q pc lv (.long x :: st) n w kc ks := by
  intro p l e s m args below meth c b sa cA D H locs ls E hw hS hb hl
  exact lv_lstore E.1 E.2.1 hd hl.has hi2 rfl (fun ls' h' => k p l e s m args below meth c b sa cA D H locs ls' E hw hS hb (lvOK.set2 hi h'))
theorem V_lstore_n {i : Fin 4} {x : Int64} (hd : decode Y.2.1 pc = .ok (.lstore_n i, 1)) (hi : stOK Y lv (i : Nat) = true) (hi2 : (i : Nat) + 1 < Y.2.2.1) (k : V Y R Q (pc + 1) ((lv.set (i : Nat) (some (.long x))).set ((i : Nat) + 1) none) st n w kc ks) : V Y R Q pc lv (.long x :: st) n w kc ks := by
  intro p l e s m args below meth c b sa cA D H locs ls E hw hS hb hl
  exact lv_lstore_n E.1 E.2.1 hd rfl hl.has hi2 rfl (fun ls' h' => k p l e s m args below meth c b sa cA D H locs ls' E hw hS hb (lvOK.set2 hi h'))
theorem prL_get {b : Nat} {sa : Nat → Nat} {i : Nat} {v : Value} (h : lv[i]? = some (some v)) : ∃ k : Nat, (prL b sa lv)[k]? = some (i, cvV b sa v) := List.getElem?_of_mem (prL_mem.mpr ⟨v, h, rfl⟩)
theorem V_iinc {i : Nat} {z a : Int} (hd : decode Y.2.1 pc = .ok (.iinc i z, 3)) (hi : lv[i]? = some (some (vI a))) (ho : stOK Y lv i = true) (k : V Y R Q (pc + 3) (lv.set i (some (vI (a + z)))) st n w kc ks) : V Y R Q pc lv st n w kc ks := by
  intro p l e s m args below meth c b sa cA D H locs ls E hw hS hb hl
  obtain ⟨kk, hkk⟩ := prL_get (b := b) (sa := sa) hi
  exact lv_iinc (k := kk) (v := iI (a + z)) E.1 E.2.1 hd hl.has hkk (iI_add a z) (stOK.lt ho) rfl (fun ls' h' => k p l e s m args below meth c b sa cA D H locs ls' E hw hS hb (lvOK.set1 (v := vI (a + z)) ho h'))
/-! arithmetic -/
theorem V_iadd {x y : Int} (hd : decode Y.2.1 pc = .ok (.iadd, 1)) (k : V Y R Q (pc + 1) lv (vI (x + y) :: st) n w kc ks) : V Y R Q pc lv (vI y :: vI x :: st) n w kc ks := by
  intro p l e s m args below meth c b sa cA D H locs ls E hw hS hb hl
  refine lv_iadd E.1 E.2.1 hd ?_
  rw [iI_add]
  exact k p l e s m args below meth c b sa cA D H locs ls E hw hS hb hl
theorem V_isub {x y : Int} (hd : decode Y.2.1 pc = .ok (.isub, 1)) (k : V Y R Q (pc + 1) lv (vI (x - y) :: st) n w kc ks) : V Y R Q pc lv (vI y :: vI x :: st) n w kc ks := by
  intro p l e s m args below meth c b sa cA D H locs ls E hw hS hb hl
  refine lv_isub E.1 E.2.1 hd ?_
  rw [iI_sub]
  exact k p l e s m args below meth c b sa cA D H locs ls E hw hS hb hl
theorem V_imul {x y : Int} (hd : decode Y.2.1 pc = .ok (.imul, 1)) (k : V Y R Q (pc + 1) lv (vI (x * y) :: st) n w kc ks) : V Y R Q pc lv (vI y :: vI x :: st) n w kc ks := by
  intro p l e s m args below meth c b sa cA D H locs ls E hw hS hb hl
  refine lv_imul E.1 E.2.1 hd ?_
  rw [iI_mul]
  exact k p l e s m args below meth c b sa cA D H locs ls E hw hS hb hl
theorem V_ineg {x : Int} (hd : decode Y.2.1 pc = .ok (.ineg, 1)) (k : V Y R Q (pc + 1) lv (vI (-x) :: st) n w kc ks) : V Y R Q pc lv (vI x :: st) n w kc ks := by
  intro p l e s m args below meth c b sa cA D H locs ls E hw hS hb hl
  refine lv_ineg E.1 E.2.1 hd ?_
  rw [iI_neg]
  exact k p l e s m args below meth c b sa cA D H locs ls E hw hS hb hl
theorem V_idiv {x y : Int} (hd : decode Y.2.1 pc = .ok (.idiv, 1)) (hx : inR x) (h0 : 0 ≤ x) (hy : inR y) (hy0 : 0 < y) (k : V Y R Q (pc + 1) lv (vI (x / y) :: st) n w kc ks) : V Y R Q pc lv (vI y :: vI x :: st) n w kc ks := by
  intro p l e s m args below meth c b sa cA D H locs ls E hw hS hb hl
  refine lv_idiv E.1 E.2.1 hd (by rw [iI_ne0 hy]; omega) ?_
  rw [iI_div hx h0 hy hy0]
  exact k p l e s m args below meth c b sa cA D H locs ls E hw hS hb hl
theorem V_irem {x y : Int} (hd : decode Y.2.1 pc = .ok (.irem, 1)) (hx : inR x) (h0 : 0 ≤ x) (hy : inR y) (hy0 : 0 < y) (k : V Y R Q (pc + 1) lv (vI (x % y) :: st) n w kc ks) : V Y R Q pc lv (vI y :: vI x :: st) n w kc ks := by
  intro p l e s m args below meth c b sa cA D H locs ls E hw hS hb hl
  refine lv_irem E.1 E.2.1 hd (by rw [iI_ne0 hy]; omega) ?_
  rw [iI_mod hx h0 hy hy0]
  exact k p l e s m args below meth c b sa cA D H locs ls E hw hS hb hl
theorem V_iand {x y v : Int32} (hd : decode Y.2.1 pc = .ok (.iand, 1)) (hv : x &&& y = v) (k : V Y R Q (pc + 1) lv (.int v :: st) n w kc ks) : V Y R Q pc lv (.int y :: .int x :: st) n w kc ks := by
  intro p l e s m args below meth c b sa cA D H locs ls E hw hS hb hl
  subst hv
  exact lv_iand E.1 E.2.1 hd (k p l e s m args below meth c b sa cA D H locs ls E hw hS hb hl)
theorem V_ior {x y v : Int32} (hd : decode Y.2.1 pc = .ok (.ior, 1)) (hv : x ||| y = v) (k : V Y R Q (pc + 1) lv (.int v :: st) n w kc ks) : V Y R Q pc lv (.int y :: .int x :: st) n w kc ks := by
  intro p l e s m args below meth c b sa cA D H locs ls E hw hS hb hl
  subst hv
  exact lv_ior E.1 E.2.1 hd (k p l e s m args below meth c b sa cA D H locs ls E hw hS hb hl)
theorem V_ixor {x y v : Int32} (hd : decode Y.2.1 pc = .ok (.ixor, 1)) (hv : x ^^^ y = v) (k : V Y R Q (pc + 1) lv (.int v :: st) n w kc ks) : V Y R Q pc lv (.int y :: .int x :: st) n w kc ks := by
  intro p l e s m args below meth c b sa cA D H locs ls E hw hS hb hl
  subst hv
  exact lv_ixor E.1 E.2.1 hd (k p l e s m args below meth c b sa cA D H locs ls E hw hS hb hl)
theorem V_ishl {x y v : Int32} (hd : decode Y.2.1 pc = .ok (.ishl, 1)) (hv : x <<< (y &&& 31) = v) (k : V Y R Q (pc + 1) lv (.int v :: st) n w kc ks) : V Y R Q pc lv (.int y :: .int x :: st) n w kc ks := by
  intro p l e s m args below meth c b sa cA D H locs ls E hw hS hb hl
  subst hv
  exact lv_ishl E.1 E.2.1 hd (k p l e s m args below meth c b sa cA D H locs ls E hw hS hb hl)
theorem V_ishr {x y v : Int32} (hd : decode Y.2.1 pc = .ok (.ishr, 1)) (hv : x >>> (y &&& 31) = v) (k : V Y R Q (pc + 1) lv (.int v :: st) n w kc ks) : V Y R Q pc lv (.int y :: .int x :: st) n w kc ks := by
  intro p l e s m args below meth c b sa cA D H locs ls E hw hS hb hl
  subst hv
  exact lv_ishr E.1 E.2.1 hd (k p l e s m args below meth c b sa cA D H locs ls E hw hS hb hl)
theorem V_iushr {x y v : Int32} (hd : decode Y.2.1 pc = .ok (.iushr, 1)) (hv : (x.toUInt32 >>> (y.toUInt32 &&& Int32.toUInt32 31)).toInt32 = v) (k : V Y R Q (pc + 1) lv (.int v :: st) n w kc ks) : V Y R Q pc lv (.int y :: .int x :: st) n w kc ks := by
  intro p l e s m args below meth c b sa cA D H locs ls E hw hS hb hl
  exact lv_iushr E.1 E.2.1 hd hv (k p l e s m args below meth c b sa cA D H locs ls E hw hS hb hl)
theorem V_ladd {x y : Int} (hd : decode Y.2.1 pc = .ok (.ladd, 1)) (k : V Y R Q (pc + 1) lv (vJ (x + y) :: st) n w kc ks) : V Y R Q pc lv (vJ y :: vJ x :: st) n w kc ks := by
  intro p l e s m args below meth c b sa cA D H locs ls E hw hS hb hl
  refine lv_ladd E.1 E.2.1 hd ?_
  rw [lI_add]
  exact k p l e s m args below meth c b sa cA D H locs ls E hw hS hb hl
theorem V_lsub {x y : Int} (hd : decode Y.2.1 pc = .ok (.lsub, 1)) (k : V Y R Q (pc + 1) lv (vJ (x - y) :: st) n w kc ks) : V Y R Q pc lv (vJ y :: vJ x :: st) n w kc ks := by
  intro p l e s m args below meth c b sa cA D H locs ls E hw hS hb hl
  refine lv_lsub E.1 E.2.1 hd ?_
  rw [lI_sub]
  exact k p l e s m args below meth c b sa cA D H locs ls E hw hS hb hl
theorem V_lmul {x y : Int} (hd : decode Y.2.1 pc = .ok (.lmul, 1)) (k : V Y R Q (pc + 1) lv (vJ (x * y) :: st) n w kc ks) : V Y R Q pc lv (vJ y :: vJ x :: st) n w kc ks := by
  intro p l e s m args below meth c b sa cA D H locs ls E hw hS hb hl
  refine lv_lmul E.1 E.2.1 hd ?_
  rw [lI_mul]
  exact k p l e s m args below meth c b sa cA D H locs ls E hw hS hb hl
theorem V_land {x y v : Int64} (hd : decode Y.2.1 pc = .ok (.land, 1)) (hv : x &&& y = v) (k : V Y R Q (pc + 1) lv (.long v :: st) n w kc ks) : V Y R Q pc lv (.long y :: .long x :: st) n w kc ks := by
  intro p l e s m args below meth c b sa cA D H locs ls E hw hS hb hl
  subst hv
  exact lv_land E.1 E.2.1 hd (k p l e s m args below meth c b sa cA D H locs ls E hw hS hb hl)
theorem V_lor {x y v : Int64} (hd : decode Y.2.1 pc = .ok (.lor, 1)) (hv : x ||| y = v) (k : V Y R Q (pc + 1) lv (.long v :: st) n w kc ks) : V Y R Q pc lv (.long y :: .long x :: st) n w kc ks := by
  intro p l e s m args below meth c b sa cA D H locs ls E hw hS hb hl
  subst hv
  exact lv_lor E.1 E.2.1 hd (k p l e s m args below meth c b sa cA D H locs ls E hw hS hb hl)
theorem V_lushr {x v : Int64} {y : Int32} (hd : decode Y.2.1 pc = .ok (.lushr, 1)) (hv : (x.toUInt64 >>> (y.toInt64.toUInt64 &&& Int64.toUInt64 63)).toInt64 = v) (k : V Y R Q (pc + 1) lv (.long v :: st) n w kc ks) : V Y R Q pc lv (.int y :: .long x :: st) n w kc ks := by
  intro p l e s m args below meth c b sa cA D H locs ls E hw hS hb hl
  exact lv_lushr E.1 E.2.1 hd hv (k p l e s m args below meth c b sa cA D H locs ls E hw hS hb hl)
theorem V_lshl {x v : Int64} {y : Int32} (hd : decode Y.2.1 pc = .ok (.lshl, 1)) (hv : x <<< (y.toInt64 &&& 63) = v) (k : V Y R Q (pc + 1) lv (.long v :: st) n w kc ks) : V Y R Q pc lv (.int y :: .long x :: st) n w kc ks := by
  intro p l e s m args below meth c b sa cA D H locs ls E hw hS hb hl
  exact lv_lshl E.1 E.2.1 hd hv (k p l e s m args below meth c b sa cA D H locs ls E hw hS hb hl)
theorem V_lshr {x v : Int64} {y : Int32} (hd : decode Y.2.1 pc = .ok (.lshr, 1)) (hv : x >>> (y.toInt64 &&& 63) = v) (k : V Y R Q (pc + 1) lv (.long v :: st) n w kc ks) : V Y R Q pc lv (.int y :: .long x :: st) n w kc ks := by
  intro p l e s m args below meth c b sa cA D H locs ls E hw hS hb hl
  exact lv_lshr E.1 E.2.1 hd hv (k p l e s m args below meth c b sa cA D H locs ls E hw hS hb hl)
theorem V_i2l {x : Int} (hd : decode Y.2.1 pc = .ok (.i2l, 1)) (hx : inR x) (k : V Y R Q (pc + 1) lv (vJ x :: st) n w kc ks) : V Y R Q pc lv (vI x :: st) n w kc ks := by
  intro p l e s m args below meth c b sa cA D H locs ls E hw hS hb hl
  exact lv_i2l E.1 E.2.1 hd (iI_long hx) (k p l e s m args below meth c b sa cA D H locs ls E hw hS hb hl)
theorem V_l2i {x : Int64} {v : Int32} (hd : decode Y.2.1 pc = .ok (.l2i, 1)) (hv : x.toInt32 = v) (k : V Y R Q (pc + 1) lv (.int v :: st) n w kc ks) : V Y R Q pc lv (.long x :: st) n w kc ks := by
  intro p l e s m args below meth c b sa cA D H locs ls E hw hS hb hl
  exact lv_l2i E.1 E.2.1 hd hv (k p l e s m args below meth c b sa cA D H locs ls E hw hS hb hl)
theorem V_i2c {x v : Int32} (hd : decode Y.2.1 pc = .ok (.i2c, 1)) (hv : (x.toUInt32 % 65536).toInt32 = v) (k : V Y R Q (pc + 1) lv (.int v :: st) n w kc ks) : V Y R Q pc lv (.int x :: st) n w kc ks := by
  intro p l e s m args below meth c b sa cA D H locs ls E hw hS hb hl
  exact lv_i2c E.1 E.2.1 hd hv (k p l e s m args below meth c b sa cA D H locs ls E hw hS hb hl)
theorem V_lcmp {x y : Int64} (hd : decode Y.2.1 pc = .ok (.lcmp, 1)) (k : V Y R Q (pc + 1) lv (.int (lg_cmp x y) :: st) n w kc ks) : V Y R Q pc lv (.long y :: .long x :: st) n w kc ks := by
  intro p l e s m args below meth c b sa cA D H locs ls E hw hS hb hl
  exact W.lcmp E.1 E.2.1 hd (k p l e s m args below meth c b sa cA D H locs ls E hw hS hb hl)
/-! the stack -/
theorem V_dup {v : Value} (hd : decode Y.2.1 pc = .ok (.dup, 1)) (hv : v.category = 1) (k : V Y R Q (pc + 1) lv (v :: v :: st) n w kc ks) : V Y R Q pc lv (v :: st) n w kc ks := by
  intro p l e s m args below meth c b sa cA D H locs ls E hw hS hb hl
  exact lv_dup E.1 E.2.1 hd (by rw [cvV_cat]; exact hv) (k p l e s m args below meth c b sa cA D H locs ls E hw hS hb hl)
theorem V_pop {v : Value} (hd : decode Y.2.1 pc = .ok (.pop, 1)) (hv : v.category = 1) (k : V Y R Q (pc + 1) lv st n w kc ks) : V Y R Q pc lv (v :: st) n w kc ks := by
  intro p l e s m args below meth c b sa cA D H locs ls E hw hS hb hl
  exact lv_pop E.1 E.2.1 hd (by rw [cvV_cat]; exact hv) (k p l e s m args below meth c b sa cA D H locs ls E hw hS hb hl)
theorem V_dup2 {v u : Value} (hd : decode Y.2.1 pc = .ok (.dup2, 1)) (hv : v.category = 1) (hu : u.category = 1) (k : V Y R Q (pc + 1) lv (v :: u :: v :: u :: st) n w kc ks) : V Y R Q pc lv (v :: u :: st) n w kc ks := by
  intro p l e s m args below meth c b sa cA D H locs ls E hw hS hb hl
  exact lv_dup2_11 E.1 E.2.1 hd (by rw [cvV_cat]; exact hv) (by rw [cvV_cat]; exact hu) (k p l e s m args below meth c b sa cA D H locs ls E hw hS hb hl)
/-! branches -/
theorem V_goto {off : Int} {tgt : Nat} (hd : decode Y.2.1 pc = .ok (.goto off, 3)) (ht : (pc : Int) + off = (tgt : Int)) (k : V Y R Q tgt lv st n w kc ks) : V Y R Q pc lv st n w kc ks := by
  intro p l e s m args below meth c b sa cA D H locs ls E hw hS hb hl
  exact lv_goto E.1 E.2.1 hd ht (k p l e s m args below meth c b sa cA D H locs ls E hw hS hb hl)
theorem V_if_eq {x : Int} {off : Int} {tgt : Nat} (hd : decode Y.2.1 pc = .ok (.ifCond .eq off, 3)) (ht : (pc : Int) + off = (tgt : Int)) (hx : inR x) (kt : x = 0 → V Y R Q tgt lv st n w kc ks) (kf : ¬ x = 0 → V Y R Q (pc + 3) lv st n w kc ks) : V Y R Q pc lv (vI x :: st) n w kc ks := by
  intro p l e s m args below meth c b sa cA D H locs ls E hw hS hb hl
  exact lv_if_eq E.1 E.2.1 hd ht (fun h => kt ((iI_ne0 hx).mp h) p l e s m args below meth c b sa cA D H locs ls E hw hS hb hl) (fun h => kf (fun z => h ((iI_ne0 hx).mpr z)) p l e s m args below meth c b sa cA D H locs ls E hw hS hb hl)
theorem V_if_ne {x : Int} {off : Int} {tgt : Nat} (hd : decode Y.2.1 pc = .ok (.ifCond .ne off, 3)) (ht : (pc : Int) + off = (tgt : Int)) (hx : inR x) (kt : ¬ x = 0 → V Y R Q tgt lv st n w kc ks) (kf : x = 0 → V Y R Q (pc + 3) lv st n w kc ks) : V Y R Q pc lv (vI x :: st) n w kc ks := by
  intro p l e s m args below meth c b sa cA D H locs ls E hw hS hb hl
  exact lv_if_ne E.1 E.2.1 hd ht (fun h => kt (fun z => h ((iI_ne0 hx).mpr z)) p l e s m args below meth c b sa cA D H locs ls E hw hS hb hl) (fun h => kf ((iI_ne0 hx).mp h) p l e s m args below meth c b sa cA D H locs ls E hw hS hb hl)
theorem V_if_lt {x : Int} {off : Int} {tgt : Nat} (hd : decode Y.2.1 pc = .ok (.ifCond .lt off, 3)) (ht : (pc : Int) + off = (tgt : Int)) (hx : inR x) (kt : x < 0 → V Y R Q tgt lv st n w kc ks) (kf : 0 ≤ x → V Y R Q (pc + 3) lv st n w kc ks) : V Y R Q pc lv (vI x :: st) n w kc ks := by
  intro p l e s m args below meth c b sa cA D H locs ls E hw hS hb hl
  have hz := iI_lt hx (b := 0) ⟨by decide, by decide⟩
  exact lv_if_lt E.1 E.2.1 hd ht (fun h => kt (hz.mp h) p l e s m args below meth c b sa cA D H locs ls E hw hS hb hl) (fun h => kf (Int.not_lt.mp fun z => h (hz.mpr z)) p l e s m args below meth c b sa cA D H locs ls E hw hS hb hl)
theorem V_if_ge {x : Int} {off : Int} {tgt : Nat} (hd : decode Y.2.1 pc = .ok (.ifCond .ge off, 3)) (ht : (pc : Int) + off = (tgt : Int)) (hx : inR x) (kt : 0 ≤ x → V Y R Q tgt lv st n w kc ks) (kf : x < 0 → V Y R Q (pc + 3) lv st n w kc ks) : V Y R Q pc lv (vI x :: st) n w kc ks := by
  intro p l e s m args below meth c b sa cA D H locs ls E hw hS hb hl
  have hz := iI_le (a := 0) ⟨by decide, by decide⟩ hx
  exact lv_if_ge E.1 E.2.1 hd ht (fun h => kt (hz.mp h) p l e s m args below meth c b sa cA D H locs ls E hw hS hb hl) (fun h => kf (Int.not_le.mp fun z => h (hz.mpr z)) p l e s m args below meth c b sa cA D H locs ls E hw hS hb hl)
theorem V_if_gt {x : Int} {off : Int} {tgt : Nat} (hd : decode Y.2.1 pc = .ok (.ifCond .gt off, 3)) (ht : (pc : Int) + off = (tgt : Int)) (hx : inR x) (kt : 0 < x → V Y R Q tgt lv st n w kc ks) (kf : x ≤ 0 → V Y R Q (pc + 3) lv st n w kc ks) : V Y R Q pc lv (vI x :: st) n w kc ks := by
  intro p l e s m args below meth c b sa cA D H locs ls E hw hS hb hl
  have hz := iI_lt (a := 0) ⟨by decide, by decide⟩ hx
  exact lv_if_gt E.1 E.2.1 hd ht (fun h => kt (hz.mp h) p l e s m args below meth c b sa cA D H locs ls E hw hS hb hl) (fun h => kf (Int.not_lt.mp fun z => h (hz.mpr z)) p l e s m args below meth c b sa cA D H locs ls E hw hS hb hl)
theorem V_if_le {x : Int} {off : Int} {tgt : Nat} (hd : decode Y.2.1 pc = .ok (.ifCond .le off, 3)) (ht : (pc : Int) + off = (tgt : Int)) (hx : inR x) (kt : x ≤ 0 → V Y R Q tgt lv st n w kc ks) (kf : 0 < x → V Y R Q (pc + 3) lv st n w kc ks) : V Y R Q pc lv (vI x :: st) n w kc ks := by
  intro p l e s m args below meth c b sa cA D H locs ls E hw hS hb hl
  have hz := iI_le hx (b := 0) ⟨by decide, by decide⟩
  exact lv_if_le E.1 E.2.1 hd ht (fun h => kt (hz.mp h) p l e s m args below meth c b sa cA D H locs ls E hw hS hb hl) (fun h => kf (Int.not_le.mp fun z => h (hz.mpr z)) p l e s m args below meth c b sa cA D H locs ls E hw hS hb hl)
theorem V_icmp_eq {x y : Int} {off : Int} {tgt : Nat} (hd : decode Y.2.1 pc = .ok (.if_icmp .eq off, 3)) (ht : (pc : Int) + off = (tgt : Int)) (hx : inR x) (hy : inR y) (kt : x = y → V Y R Q tgt lv st n w kc ks) (kf : ¬ x = y → V Y R Q (pc + 3) lv st n w kc ks) : V Y R Q pc lv (vI y :: vI x :: st) n w kc ks := by
  intro p l e s m args below meth c b sa cA D H locs ls E hw hS hb hl
  exact lv_icmp_eq E.1 E.2.1 hd ht (fun h => kt ((iI_eq hx hy).mp h) p l e s m args below meth c b sa cA D H locs ls E hw hS hb hl) (fun h => kf (fun z => h ((iI_eq hx hy).mpr z)) p l e s m args below meth c b sa cA D H locs ls E hw hS hb hl)
theorem V_icmp_ne {x y : Int} {off : Int} {tgt : Nat} (hd : decode Y.2.1 pc = .ok (.if_icmp .ne off, 3)) (ht : (pc : Int) + off = (tgt : Int)) (hx : inR x) (hy : inR y) (kt : ¬ x = y → V Y R Q tgt lv st n w kc ks) (kf : x = y → V Y R Q (pc + 3) lv st n w kc ks) : V Y R Q pc lv (vI y :: vI x :: st) n w kc ks := by
  intro p l e s m args below meth c b sa cA D H locs ls E hw hS hb hl
  exact lv_icmp_ne E.1 E.2.1 hd ht (fun h => kt (fun z => h ((iI_eq hx hy).mpr z)) p l e s m args below meth c b sa cA D H locs ls E hw hS hb hl) (fun h => kf ((iI_eq hx hy).mp h) p l e s m args below meth c b sa cA D H locs ls E hw hS hb hl)
theorem V_icmp_lt {x y : Int} {off : Int} {tgt : Nat} (hd : decode Y.2.1 pc = .ok (.if_icmp .lt off, 3)) (ht : (pc : Int) + off = (tgt : Int)) (hx : inR x) (hy : inR y) (kt : x < y → V Y R Q tgt lv st n w kc ks) (kf : y ≤ x → V Y R Q (pc + 3) lv st n w kc ks) : V Y R Q pc lv (vI y :: vI x :: st) n w kc ks := by
  intro p l e s m args below meth c b sa cA D H locs ls E hw hS hb hl
  have hz := iI_lt hx hy
  exact lv_icmp_lt E.1 E.2.1 hd ht (fun h => kt (hz.mp h) p l e s m args below meth c b sa cA D H locs ls E hw hS hb hl) (fun h => kf (Int.not_lt.mp fun z => h (hz.mpr z)) p l e s m args below meth c b sa cA D H locs ls E hw hS hb hl)
theorem V_icmp_ge {x y : Int} {off : Int} {tgt : Nat} (hd : decode Y.2.1 pc = .ok (.if_icmp .ge off, 3)) (ht : (pc : Int) + off = (tgt : Int)) (hx : inR x) (hy : inR y) (kt : y ≤ x → V Y R Q tgt lv st n w kc ks) (kf : x < y → V Y R Q (pc + 3) lv st n w kc ks) : V Y R Q pc lv (vI y :: vI x :: st) n w kc ks := by
  intro p l e s m args below meth c b sa cA D H locs ls E hw hS hb hl
  have hz := iI_le hy hx
  exact lv_icmp_ge E.1 E.2.1 hd ht (fun h => kt (hz.mp h) p l e s m args below meth c b sa cA D H locs ls E hw hS hb hl) (fun h => kf (Int.not_le.mp fun z => h (hz.mpr z)) p l e s m args below meth c b sa cA D H locs ls E hw hS hb hl)
theorem V_icmp_gt {x y : Int} {off : Int} {tgt : Nat} (hd : decode Y.2.1 pc = .ok (.if_icmp .gt off, 3)) (ht : (pc : Int) + off = (tgt : Int)) (hx : inR x) (hy : inR y) (kt : y < x → V Y R Q tgt lv st n w kc ks) (kf : x ≤ y → V Y R Q (pc + 3) lv st n w kc ks) : V Y R Q pc lv (vI y :: vI x :: st) n w kc ks := by
  intro p l e s m args below meth c b sa cA D H locs ls E hw hS hb hl
  have hz := iI_lt hy hx
  exact lv_icmp_gt E.1 E.2.1 hd ht (fun h => kt (hz.mp h) p l e s m args below meth c b sa cA D H locs ls E hw hS hb hl) (fun h => kf (Int.not_lt.mp fun z => h (hz.mpr z)) p l e s m args below meth c b sa cA D H locs ls E hw hS hb hl)
theorem V_icmp_le {x y : Int} {off : Int} {tgt : Nat} (hd : decode Y.2.1 pc = .ok (.if_icmp .le off, 3)) (ht : (pc : Int) + off = (tgt : Int)) (hx : inR x) (hy : inR y) (kt : x ≤ y → V Y R Q tgt lv st n w kc ks) (kf : y < x → V Y R Q (pc + 3) lv st n w kc ks) : V Y R Q pc lv (vI y :: vI x :: st) n w kc ks := by
  intro p l e s m args below meth c b sa cA D H locs ls E hw hS hb hl
  have hz := iI_le hx hy
  exact lv_icmp_le E.1 E.2.1 hd ht (fun h => kt (hz.mp h) p l e s m args below meth c b sa cA D H locs ls E hw hS hb hl) (fun h => kf (Int.not_le.mp fun z => h (hz.mpr z)) p l e s m args below meth c b sa cA D H locs ls E hw hS hb hl)
theorem V_tableIn {dflt lo hi : Int} {offs : Array Int} {len : Nat} {x : Int} {off : Int} {tgt : Nat} (hd : decode Y.2.1 pc = .ok (.tableswitch dflt lo hi offs, len)) (hx : inR x) (h1 : lo ≤ x) (h2 : x ≤ hi) (ho : offs[(x - lo).toNat]? = some off) (ht : (pc : Int) + off = (tgt : Int)) (k : V Y R Q tgt lv st n w kc ks) : V Y R Q pc lv (vI x :: st) n w kc ks := by
  intro p l e s m args below meth c b sa cA D H locs ls E hw hS hb hl
  exact lv_tableIn E.1 E.2.1 hd (by rw [iI_toInt hx]; omega) (by rw [iI_toInt hx]; omega) (by rw [iI_toInt hx]; exact ho) ht (k p l e s m args below meth c b sa cA D H locs ls E hw hS hb hl)
theorem V_tableOut {dflt lo hi : Int} {offs : Array Int} {len : Nat} {x : Int} {tgt : Nat} (hd : decode Y.2.1 pc = .ok (.tableswitch dflt lo hi offs, len)) (hx : inR x) (h : x < lo ∨ hi < x) (ht : (pc : Int) + dflt = (tgt : Int)) (k : V Y R Q tgt lv st n w kc ks) : V Y R Q pc lv (vI x :: st) n w kc ks := by
  intro p l e s m args below meth c b sa cA D H locs ls E hw hS hb hl
  exact lv_tableOut E.1 E.2.1 hd (by rw [iI_toInt hx]; exact h) ht (k p l e s m args below meth c b sa cA D H locs ls E hw hS hb hl)
end VRULES
end
section
/-! ===== the rules of the heap, of returns and of calls ===== -/
/-- a field by a constant of a pool: the class's number, the slot, its type, is it final -/
def FL (own : String) (idx ci k : Nat) (ty : FieldType) (fin : Bool) : Prop :=
  ∃ (C : String) (T : u_T) (N : Nat) (ty0 : Nat → FieldType), vwCl[ci]? = some (C, T, N) ∧ k < N ∧ (∀ w ∈ u_ws C T N, w ∈ vU) ∧ (∀ j, j < N → parseFieldDescriptor (T j).2.2.1 = some (ty0 j)) ∧ (∀ a, a < N → ∀ b, b < N → a ≠ b → (T a).2.1 ≠ (T b).2.1) ∧ (T k).1 = C ∧ ty0 k = ty ∧ (T k).2.2.2 = fin ∧
    (Cond.fieldLink own idx C (T k).2.1 (T k).2.2.1 ∈ vU ∨ ∃ host, Cond.fieldLinkNest own idx C (T k).2.1 (T k).2.2.1 host ∈ lw_tbl)
theorem cvE_o {b : Nat} {sa cA : Nat → Nat} {ci : Nat} {fs : List Value} : cvE b sa cA (.inr (ci, fs)) = .inr (ci, fs.map (cvV b sa)) := rfl
section VHEAP
variable {Y : vMeth} {R : Room} {Q : vPost} {pc : Nat} {lv : vLs} {st : List Value} {n : Nat} {w : vWd} {kc ks : Nat}
theorem V_get {a ci k idx : Nat} {ty : FieldType} {fin : Bool} {fs : List Value} {v : Value} (hd : decode Y.2.1 pc = .ok (.getfield idx, 3)) (hf : FL Y.1.cls idx ci k ty fin) (hw0 : w a = some (.inr (ci, fs))) (hv : fs[k]? = some v) (kk : V Y R Q (pc + 3) lv (v :: st) n w kc ks) : V Y R Q pc lv (.ref a :: st) n w kc ks := by
  intro p l e s m args below meth c b sa cA D H locs ls E hw hS hb hl
  obtain ⟨C, T, N, ty0, hc, hk, hin, hty, hnm, hC, -, -, hlk⟩ := hf
  have hv' : (fs.map (cvV b sa))[k]? = some (cvV b sa v) := by rw [List.getElem?_map, hv]; rfl
  have hts := E.2.2.2.2.2.1
  have K := kk p l e s m args below meth c b sa cA D H locs ls E hw hS hb hl
  rcases hlk with hlk | ⟨host, hlk⟩
  · exact va_get (D := D) E.1 E.2.1 hts hin E.2.2.2.2.1 E.2.2.2.2.2.2.2.2.1 (hw.P hw0) 0 rfl hc k hk (hts _ hlk) (fun x h => by rw [hC] at h; exact h) hv' hd K
  · exact va_getN (D := D) E.1 E.2.1 hts hin E.2.2.2.2.1 E.2.2.2.2.2.2.2.2.1 (hw.P hw0) 0 rfl hc k hk (va_Nw.use rfl (E.2.2.2.2.2.2.2.2.2.2 _ hlk rfl)) (fun x h => by rw [hC] at h; exact h) hv' hd K
theorem vS_put {A : Nat → Prop} {H0 H H1 : Heap} {locs : List Loc} {a k : Nat} (h : va_S A H0 H locs) (z : H1.size = H.size) (oq : ∀ q : Nat, q ≠ a → H1[q]? = H[q]?) (ha : A a) : va_S A H0 H1 (locs ++ [⟨a, k⟩]) := h.put z oq ha
theorem V_put {a ci k idx : Nat} {ty : FieldType} {fs : List Value} {v : Value} (hd : decode Y.2.1 pc = .ok (.putfield idx, 3)) (hf : FL Y.1.cls idx ci k ty false) (hw0 : w a = some (.inr (ci, fs))) (hn : ∀ (b : Nat) (sa : Nat → Nat), narrow ty (cvV b sa v) = cvV b sa v ∧ fits ty (cvV b sa v) = true) (hlen : k < fs.length) (kk : V Y R Q (pc + 3) lv st n (va_up w a (some (.inr (ci, fs.set k v)))) kc ks) : V Y R Q pc lv (v :: .ref a :: st) n w kc ks := by
  intro p l e s m args below meth c b sa cA D H locs ls E hw hS hb hl
  obtain ⟨C, T, N, ty0, hc, hk, hin, hty, hnm, hC, hty1, hfin, hlk⟩ := hf
  have hts := E.2.2.2.2.2.1
  have hK := E.2.2.2.2.2.2.2.2.1
  have hown := E.2.2.2.2.1
  have hap := va_apart (own := Y.1.cls) hts hin ty0 hty hnm hK hc
  obtain ⟨r, h1, cell, q1, q2, q3, q4⟩ := hw.P hw0 0 _ rfl
  have hr : r = (C, T, N) := Option.some.inj (h1.symm.trans hc)
  subst hr
  obtain ⟨hSl, hfc, kC, hkC, hkind⟩ := hK.1 ci _ hc
  obtain ⟨cf, kf, fi, f, hi, hsl⟩ := hSl k hk
  have hlay := hts _ (hin _ (u_in_lay hk))
  unfold u_lay at hlay
  rw [if_neg (by rw [hfin]; decide)] at hlay
  have hst := (u_facts hfc hkC (u_lays hts hin hk) hi).1
  have hd0 : parseFieldDescriptor (T k).2.2.1 = some ty := by rw [hty k hk, hty1]
  have h6 := u_store hfc hkC hkind hlay hi hd0 (hn b sa).1 (hn b sa).2
  have hsame : s.fieldFound? C (T k).2.1 (T k).2.2.1 = some (cf, kf, fi, f) := by rw [hC] at hi; exact hi
  have fin : ∀ H' : Heap, H'[b + a]? = some (cell.setSlot f.slot (cvV b sa v)) → H'.size = H.size → (∀ q, q ≠ b + a → H'[q]? = H[q]?) → W p l e R s m args below meth c H' (locs ++ [⟨b + a, f.slot⟩]) kc ks (MQ below (vZ b sa cA D Q) args s R.cells R.slots (fB b)) (F0 m (pc + 3) ls (st.map (cvV b sa))) := by
    intro H' e1 e2 e3
    rw [hsl] at e1 ⊢
    refine kk p l e s m args below meth c b sa cA D H' _ ls E (hw.set hw0 e2 ?_ e3) (hS.put e2 e3 (Nat.le_add_right b a)) hb hl
    refine ⟨_, hc, t_OB.to (V := updV (vp_V (fs.map (cvV b sa))) k (cvV b sa v)) ⟨_, e1, q2, q3, t_set q4 hap hk (cvV b sa v)⟩ (fun j _ => ?_)⟩
    rw [vp_updV_set (by rw [List.length_map]; exact hlen), List.map_set]
  rcases hlk with hlk | ⟨host, hlk⟩
  · exact W.putK E.1 E.2.1 (f := f) ⟨hown, hts _ hlk, ⟨_, _, _, hsame⟩, hst⟩ (by rw [q2]; exact h6) q1 q3 (by rw [hsl]; exact k2_hasslot (q4 k hk)) rfl rfl hd fin
  · exact va_WputK E.1 E.2.1 (f := f) hown (va_Nw.use rfl (E.2.2.2.2.2.2.2.2.2.2 _ hlk rfl)) hsame hst (by rw [q2]; exact h6) q1 q3 (by rw [hsl]; exact k2_hasslot (q4 k hk)) rfl rfl hd fin
theorem V_puti {a ci k idx : Nat} {fs : List Value} {x : Int32} (hd : decode Y.2.1 pc = .ok (.putfield idx, 3)) (hf : FL Y.1.cls idx ci k .int false) (hw0 : w a = some (.inr (ci, fs))) (hlen : k < fs.length) (kk : V Y R Q (pc + 3) lv st n (va_up w a (some (.inr (ci, fs.set k (.int x))))) kc ks) : V Y R Q pc lv (.int x :: .ref a :: st) n w kc ks :=
  V_put hd hf hw0 (fun _ _ => ⟨rfl, rfl⟩) hlen kk
theorem V_putz {a ci k idx : Nat} {fs : List Value} {x : Int32} (hd : decode Y.2.1 pc = .ok (.putfield idx, 3)) (hf : FL Y.1.cls idx ci k .boolean false) (hw0 : w a = some (.inr (ci, fs))) (hx : x = 0 ∨ x = 1) (hlen : k < fs.length) (kk : V Y R Q (pc + 3) lv st n (va_up w a (some (.inr (ci, fs.set k (.int x))))) kc ks) : V Y R Q pc lv (.int x :: .ref a :: st) n w kc ks :=
  V_put hd hf hw0 (fun _ _ => by rcases hx with rfl | rfl <;> exact ⟨rfl, rfl⟩) hlen kk
/-- a final field, in its class's constructor -/
theorem V_putF {a ci k idx a' : Nat} {ty : FieldType} {fs : List Value} (hd : decode Y.2.1 pc = .ok (.putfield idx, 3)) (hf : FL Y.1.cls idx ci k ty true) (hw0 : w a = some (.inr (ci, fs))) (hini : Y.1.name = "<init>") (hcls : ∃ q, vwCl[ci]? = some q ∧ q.1 = Y.1.cls) (hlk0 : ∀ C T N, vwCl[ci]? = some (C, T, N) → Cond.fieldLink Y.1.cls idx C (T k).2.1 (T k).2.2.1 ∈ vU) (hn : ∀ q : Nat, narrow ty (.ref q) = .ref q ∧ fits ty (.ref q) = true) (hlen : k < fs.length) (kk : V Y R Q (pc + 3) lv st n (va_up w a (some (.inr (ci, fs.set k (.ref a'))))) kc ks) : V Y R Q pc lv (.ref a' :: .ref a :: st) n w kc ks := by
  intro p l e s m args below meth c b sa cA D H locs ls E hw hS hb hl
  obtain ⟨C, T, N, ty0, hc, hk, hin, hty, hnm, hC, hty1, hfin, -⟩ := hf
  have hlk := hlk0 C T N hc
  have hts := E.2.2.2.2.2.1
  have hK := E.2.2.2.2.2.2.2.2.1
  have hown := E.2.2.2.2.1
  have hap := va_apart (own := Y.1.cls) hts hin ty0 hty hnm hK hc
  obtain ⟨r, h1, cell, q1, q2, q3, q4⟩ := hw.P hw0 0 _ rfl
  have hr : r = (C, T, N) := Option.some.inj (h1.symm.trans hc)
  subst hr
  obtain ⟨hSl, hfc, kC, hkC, hkind⟩ := hK.1 ci _ hc
  obtain ⟨cf, kf, fi, f, hi, hsl⟩ := hSl k hk
  have hlay := hts _ (hin _ (u_in_lay hk))
  unfold u_lay at hlay
  rw [if_pos hfin] at hlay
  have hst := (u_facts hfc hkC (u_lays hts hin hk) hi).1
  have hd0 : parseFieldDescriptor (T k).2.2.1 = some ty := by rw [hty k hk, hty1]
  have hdecl : C = Y.1.cls := by
    obtain ⟨q, g1, g2⟩ := hcls
    rw [hc] at g1
    cases g1
    exact g2
  have hcf : m.cls = cf := by
    obtain ⟨_, _, c', _, _, _, -, -, hf', -, -, -, hown2, -⟩ := Cond.laysFinal_spec hlay
    have e1 : c' = cf := by have := hi.symm.trans hf'; simp at this; exact this.1.symm
    rw [hC, hdecl] at hown2
    rw [← e1]; exact Option.some.inj (hown.symm.trans hown2)
  have h6 := u_fits hfc hkC hkind (Or.inr hlay) hi hd0 (hn (b + a')).1 (hn (b + a')).2
  have hsame : s.fieldFound? C (T k).2.1 (T k).2.2.1 = some (cf, kf, fi, f) := by rw [hC] at hi; exact hi
  refine W.putFinK E.1 E.2.1 hown (hts _ hlk) hsame hst hcf (E.2.2.2.2.2.2.1.trans hini) (by rw [q2]; exact h6) q1 q3 (by rw [hsl]; exact k2_hasslot (q4 k hk)) rfl rfl hd fun H' e1 e2 e3 => ?_
  rw [hsl] at e1 ⊢
  refine kk p l e s m args below meth c b sa cA D H' _ ls E (hw.set hw0 e2 ?_ e3) (hS.put e2 e3 (Nat.le_add_right b a)) hb hl
  refine ⟨_, hc, t_OB.to (V := updV (vp_V (fs.map (cvV b sa))) k (.ref (b + a'))) ⟨_, e1, q2, q3, t_set q4 hap hk (.ref (b + a'))⟩ (fun j _ => ?_)⟩
  rw [vp_updV_set (by rw [List.length_map]; exact hlen), List.map_set]
  rfl
/-! arrays: 0 of ints, 1 of booleans -/
abbrev arI (N : Nat) (f : Nat → Int) : va_E := .inl (0, N, .inl (fun k => iI (f k)))
abbrev arZ (N : Nat) (f : Nat → Int) : va_E := .inl (1, N, .inl (fun k => iI (f k)))
theorem V_iald {a N : Nat} {f : Nat → Int} {j : Int} (hd : decode Y.2.1 pc = .ok (.iaload, 1)) (hw0 : w a = some (arI N f)) (hj : 0 ≤ j ∧ j < N) (hN : N < 2147483648) (kk : V Y R Q (pc + 1) lv (vI (f j.toNat) :: st) n w kc ks) : V Y R Q pc lv (vI j :: .ref a :: st) n w kc ks := by
  intro p l e s m args below meth c b sa cA D H locs ls E hw hS hb hl
  refine va_iald (D := D) E.1 E.2.1 E.2.2.2.2.2.2.2.2.1 (hw.P hw0) 0 0 rfl rfl (iI_in hj.1 hj.2 hN) hd ?_
  rw [iI_clamp ⟨by omega, by omega⟩]
  exact kk p l e s m args below meth c b sa cA D H locs ls E hw hS hb hl
theorem V_zald {a N : Nat} {f : Nat → Int} {j : Int} (hd : decode Y.2.1 pc = .ok (.baload, 1)) (hw0 : w a = some (arZ N f)) (hj : 0 ≤ j ∧ j < N) (hN : N < 2147483648) (kk : V Y R Q (pc + 1) lv (vI (f j.toNat) :: st) n w kc ks) : V Y R Q pc lv (vI j :: .ref a :: st) n w kc ks := by
  intro p l e s m args below meth c b sa cA D H locs ls E hw hS hb hl
  refine va_zald (D := D) E.1 E.2.1 E.2.2.2.2.2.2.2.2.1 (hw.P hw0) 0 1 rfl rfl (iI_in hj.1 hj.2 hN) hd ?_
  rw [iI_clamp ⟨by omega, by omega⟩]
  exact kk p l e s m args below meth c b sa cA D H locs ls E hw hS hb hl
theorem V_iast {a N : Nat} {f : Nat → Int} {j z : Int} (hd : decode Y.2.1 pc = .ok (.iastore, 1)) (hw0 : w a = some (arI N f)) (hj : 0 ≤ j ∧ j < N) (hN : N < 2147483648) (kk : V Y R Q (pc + 1) lv st n (va_up w a (some (arI N (va_up f j.toNat z)))) kc ks) : V Y R Q pc lv (vI z :: vI j :: .ref a :: st) n w kc ks := by
  intro p l e s m args below meth c b sa cA D H locs ls E hw hS hb hl
  have ha : va_at D vwCl (b + a, .inl (cA 0, N, .inl (fun k => iI (f k)))) H := hw.2.2 a _ hw0
  refine W.iast E.1 E.2.1 ha ((E.2.2.2.2.2.2.2.2.1.2 0 _ rfl).1 N (fun j => .int (iI (f j)))) (fun q => by cases q) (by show ¬ (iI j < 0 ∨ (arrV _ _ _).slots.size ≤ _); rw [arrV_size]; exact iI_in hj.1 hj.2 hN) rfl rfl hd fun H1 e1 z1 oq => ?_
  refine kk p l e s m args below meth c b sa cA D H1 _ ls E (hw.set hw0 z1 ?_ oq) (hS.put z1 oq (Nat.le_add_right b a)) hb hl
  show H1[b + a]? = some (vp_cell _ _)
  rw [e1, vp_cell_i, vp_cell_i, arrV_store, iI_clamp ⟨by omega, by omega⟩]
  congr 2
  funext q
  by_cases hq : q = j.toNat <;> simp [updV, va_up, hq]
theorem V_zast {a N : Nat} {f : Nat → Int} {j z : Int} (hd : decode Y.2.1 pc = .ok (.bastore, 1)) (hw0 : w a = some (arZ N f)) (hj : 0 ≤ j ∧ j < N) (hN : N < 2147483648) (hz : z = 0 ∨ z = 1) (kk : V Y R Q (pc + 1) lv st n (va_up w a (some (arZ N (va_up f j.toNat z)))) kc ks) : V Y R Q pc lv (vI z :: vI j :: .ref a :: st) n w kc ks := by
  intro p l e s m args below meth c b sa cA D H locs ls E hw hS hb hl
  have ha : va_at D vwCl (b + a, .inl (cA 1, N, .inl (fun k => iI (f k)))) H := hw.2.2 a _ hw0
  refine W.zast E.1 E.2.1 ha ((E.2.2.2.2.2.2.2.2.1.2 1 _ rfl).1 N (fun j => .int (iI (f j)))) (fun q => by cases q) (by show ¬ (iI j < 0 ∨ (arrV _ _ _).slots.size ≤ _); rw [arrV_size]; exact iI_in hj.1 hj.2 hN) rfl rfl hd fun H1 e1 z1 oq => ?_
  refine kk p l e s m args below meth c b sa cA D H1 _ ls E (hw.set hw0 z1 ?_ oq) (hS.put z1 oq (Nat.le_add_right b a)) hb hl
  show H1[b + a]? = some (vp_cell _ _)
  have hnz : narrow .boolean (.int (iI z)) = .int (iI z) := by rcases hz with rfl | rfl <;> rfl
  rw [e1, vp_cell_i, vp_cell_i, hnz, arrV_store, iI_clamp ⟨by omega, by omega⟩]
  congr 2
  funext q
  by_cases hq : q = j.toNat <;> simp [updV, va_up, hq]
theorem V_alen {a N : Nat} {f : Nat → Int} (hd : decode Y.2.1 pc = .ok (.arraylength, 1)) (hw0 : w a = some (arI N f)) (kk : V Y R Q (pc + 1) lv (vI N :: st) n w kc ks) : V Y R Q pc lv (.ref a :: st) n w kc ks := by
  intro p l e s m args below meth c b sa cA D H locs ls E hw hS hb hl
  exact va_alen (D := D) (v := iI N) E.1 E.2.1 E.2.2.2.2.2.2.2.2.1 (hw.P hw0) 0 0 rfl rfl (nI_iI N) hd (kk p l e s m args below meth c b sa cA D H locs ls E hw hS hb hl)
theorem V_newI {z : Int} {N : Nat} (hd : decode Y.2.1 pc = .ok (.newarray .int, 2)) (harr : Cond.arrayClass .int ∈ vU) (hz : z = N) (hN : N ≤ 100000) (hc : kc + 1 ≤ R.cells) (hs : ks + N ≤ R.slots) (kk : V Y R Q (pc + 2) lv (.ref n :: st) (n + 1) (va_up w n (some (arI N (fun _ => 0)))) (kc + 1) (ks + N)) : V Y R Q pc lv (vI z :: st) n w kc ks := by
  intro p l e s m args below meth c b sa cA D H locs ls E hw hS hb hl
  subst hz
  refine va_newaK (atype := .int) E.1 E.2.1 (E.2.2.2.2.2.1 _ harr) rfl hd (n := iI N) (N := N) rfl (by rw [iI_0, iI_lt ⟨by omega, by omega⟩ ⟨by omega, by omega⟩]; omega) (by rw [iI_clamp ⟨by omega, by omega⟩]; omega) (by show N * 4 ≤ _; omega) hc hs hw.1 fun H1 c1 e1 z1 o1 hAr hNm => ?_
  have hK := E.2.2.2.2.2.2.2.2.1
  have hcA : c1 = cA 0 := Option.some.inj (hNm.symm.trans (hK.2 0 _ rfl).2)
  have e2 : (Value.ref (b + n)) :: st.map (cvV b sa) = (Value.ref n :: st).map (cvV b sa) := rfl
  rw [e2]
  refine kk p l e s m args below meth c b sa cA D H1 locs ls E (hw.push (by rw [z1, hw.1]) ?_ (fun q hq => o1 q (by rw [← hw.1]; exact hq))) ⟨Nat.le_trans hS.1 (by rw [z1, hw.1]; omega), fun x h1 h2 => (o1 x (by have := hS.1; have := hw.1; omega)).trans (hS.2.1 x h1 h2), hS.2.2⟩ hb hl
  show H1[b + n]? = some (vp_cell _ _)
  rw [e1, hcA]
  rfl
theorem V_newZ {z : Int} {N : Nat} (hd : decode Y.2.1 pc = .ok (.newarray .boolean, 2)) (harr : Cond.arrayClass .boolean ∈ vU) (hz : z = N) (hN : N ≤ 100000) (hc : kc + 1 ≤ R.cells) (hs : ks + N ≤ R.slots) (kk : V Y R Q (pc + 2) lv (.ref n :: st) (n + 1) (va_up w n (some (arZ N (fun _ => 0)))) (kc + 1) (ks + N)) : V Y R Q pc lv (vI z :: st) n w kc ks := by
  intro p l e s m args below meth c b sa cA D H locs ls E hw hS hb hl
  subst hz
  refine va_newaK (atype := .boolean) E.1 E.2.1 (E.2.2.2.2.2.1 _ harr) rfl hd (n := iI N) (N := N) rfl (by rw [iI_0, iI_lt ⟨by omega, by omega⟩ ⟨by omega, by omega⟩]; omega) (by rw [iI_clamp ⟨by omega, by omega⟩]; omega) (by show N * 1 ≤ _; omega) hc hs hw.1 fun H1 c1 e1 z1 o1 hAr hNm => ?_
  have hK := E.2.2.2.2.2.2.2.2.1
  have hcA : c1 = cA 1 := Option.some.inj (hNm.symm.trans (hK.2 1 _ rfl).2)
  have e2 : (Value.ref (b + n)) :: st.map (cvV b sa) = (Value.ref n :: st).map (cvV b sa) := rfl
  rw [e2]
  refine kk p l e s m args below meth c b sa cA D H1 locs ls E (hw.push (by rw [z1, hw.1]) ?_ (fun q hq => o1 q (by rw [← hw.1]; exact hq))) ⟨Nat.le_trans hS.1 (by rw [z1, hw.1]; omega), fun x h1 h2 => (o1 x (by have := hS.1; have := hw.1; omega)).trans (hS.2.1 x h1 h2), hS.2.2⟩ hb hl
  show H1[b + n]? = some (vp_cell _ _)
  rw [e1, hcA]
  rfl
theorem V_new {idx ci : Nat} {C : String} {T : u_T} {N : Nat} {ty0 : Nat → FieldType} {fs : List Value} (hd : decode Y.2.1 pc = .ok (.new idx, 3)) (hc0 : vwCl[ci]? = some (C, T, N)) (hin : ∀ w ∈ u_ws C T N, w ∈ vU) (hty : ∀ j, j < N → parseFieldDescriptor (T j).2.2.1 = some (ty0 j)) (hcl : Cond.classLink Y.1.cls idx C ∈ vU) (hinst : Cond.instantiable C N ∈ vU) (hini : Cond.initialized C ∈ vU) (hfs : ∀ (b : Nat) (sa : Nat → Nat) (j : Nat), j < N → defaultValue (ty0 j) = vp_V (fs.map (cvV b sa)) j) (hc : kc + 1 ≤ R.cells) (hs : ks + N ≤ R.slots) (kk : V Y R Q (pc + 3) lv (.ref n :: st) (n + 1) (va_up w n (some (.inr (ci, fs)))) (kc + 1) (ks + N)) : V Y R Q pc lv st n w kc ks := by
  intro p l e s m args below meth c b sa cA D H locs ls E hw hS hb hl
  have hts := E.2.2.2.2.2.1
  have hKn := E.2.2.2.2.2.2.2.2.1.1 ci _ hc0
  refine W.newcK E.1 E.2.1 E.2.2.2.2.1 (hts _ hcl) (hts _ hinst) (hts _ hini) rfl hd hc hs hKn.2.1 hw.1 fun H1 kC hkC e1 z1 o1 => ?_
  have e2 : (Value.ref (b + n)) :: st.map (cvV b sa) = (Value.ref n :: st).map (cvV b sa) := rfl
  show W p l e R s m args below meth c H1 locs (kc + 1) (ks + N) _ (F0 m (pc + 3) ls ((Value.ref (b + n)) :: st.map (cvV b sa)))
  rw [e2]
  refine kk p l e s m args below meth c b sa cA D H1 locs ls E (hw.push (by rw [z1, hw.1]) ?_ (fun q hq => o1 q (by rw [← hw.1]; exact hq))) ⟨Nat.le_trans hS.1 (by rw [z1, hw.1]; omega), fun x h1 h2 => (o1 x (by have := hS.1; have := hw.1; omega)).trans (hS.2.1 x h1 h2), hS.2.2⟩ hb hl
  exact ⟨_, hc0, (u_born ty0 hts hin hKn hkC e1 hty).to (hfs b sa)⟩
theorem V_objInit {idx a : Nat} (hd : decode Y.2.1 pc = .ok (.invokespecial idx, 3)) (h1 : Cond.methodLink Y.1.cls idx Lib.objectInit ∈ vU) (h2 : Cond.instanceMethod Lib.objectInit ∈ vU) (h3 : Cond.code Lib.objectInit ⟨#[0xb1]⟩ 1 none ∈ vU) (hf : 1 ≤ R.frames) (hlo : (st.map fun v => v.category).sum + 12 ≤ R.locals) (kk : V Y R Q (pc + 3) lv st n w kc ks) : V Y R Q pc lv (.ref a :: st) n w kc ks := by
  intro p l e s m args below meth c b sa cA D H locs ls E hw hS hb hl
  have hts := E.2.2.2.2.2.1
  have hcat : (((st.map (cvV b sa)).map fun v => v.category)) = st.map fun v => v.category := by rw [List.map_map]; exact List.map_congr_left (fun v _ => cvV_cat b sa v)
  refine W.objInit (rest := st.map (cvV b sa)) E.1 E.2.1 E.2.2.2.2.1 (hts _ h1) (hts _ h2) (hts _ h3) rfl (hl.1.trans E.2.2.2.1.symm) rfl hd hf ?_ ?_
  · rw [hcat]
    show 2 * 0 + _ + 12 ≤ _
    omega
  · exact kk p l e s m args below meth c b sa cA D H locs ls E hw hS hb hl
/-! returns -/
theorem vF {b : Nat} {s t : State} {H : Heap} {locs : List Loc} (h : va_S (fB b) s.heap H locs) (ht : t.heap = H) : va_F (fB b) s t := h.F ht
theorem V_iret {x : Int32} (hd : decode Y.2.1 pc = .ok (.ireturn, 1)) (hr : Y.2.2.2 = some .int) (hc : kc ≤ R.cells) (hs : ks ≤ R.slots) (hq : Q (some (.int x)) n w) : V Y R Q pc lv [.int x] n w kc ks := by
  intro p l e s m args below meth c b sa cA D H locs ls E hw hS hb hl
  refine W.widen hc hs ?_
  exact W.iret (v := x) E.1 E.2.1 (E.2.2.1.trans hr) (fun t ht hW => ⟨⟨some (.int x), n, w, rfl, hq, by rw [ht]; exact hw⟩, hS.F ht⟩) hS.2.2 hd E.2.2.2.2.2.2.2.1
theorem V_zret {x : Int32} {ty : FieldType} (hd : decode Y.2.1 pc = .ok (.ireturn, 1)) (hr : Y.2.2.2 = some ty) (hn : narrow ty (.int x) = .int x) (hc : kc ≤ R.cells) (hs : ks ≤ R.slots) (hq : Q (some (.int x)) n w) : V Y R Q pc lv [.int x] n w kc ks := by
  intro p l e s m args below meth c b sa cA D H locs ls E hw hS hb hl
  refine W.widen hc hs ?_
  exact W.zret (v := x) E.1 E.2.1 (E.2.2.1.trans hr) hn (fun t ht hW => ⟨⟨some (.int x), n, w, rfl, hq, by rw [ht]; exact hw⟩, hS.F ht⟩) hS.2.2 hd E.2.2.2.2.2.2.2.1
theorem V_lret {x : Int64} (hd : decode Y.2.1 pc = .ok (.lreturn, 1)) (hr : Y.2.2.2 = some .long) (hc : kc ≤ R.cells) (hs : ks ≤ R.slots) (hq : Q (some (.long x)) n w) : V Y R Q pc lv [.long x] n w kc ks := by
  intro p l e s m args below meth c b sa cA D H locs ls E hw hS hb hl
  refine W.widen hc hs ?_
  exact W.lret (v := x) E.1 E.2.1 (E.2.2.1.trans hr) (fun t ht hW => ⟨⟨some (.long x), n, w, rfl, hq, by rw [ht]; exact hw⟩, hS.F ht⟩) hS.2.2 hd E.2.2.2.2.2.2.2.1
theorem V_vret (hd : decode Y.2.1 pc = .ok (.return_, 1)) (hr : Y.2.2.2 = none) (hc : kc ≤ R.cells) (hs : ks ≤ R.slots) (hq : Q none n w) : V Y R Q pc lv [] n w kc ks := by
  intro p l e s m args below meth c b sa cA D H locs ls E hw hS hb hl
  refine W.widen hc hs ?_
  exact W.vret E.1 E.2.1 (E.2.2.1.trans hr) (fun t ht hW => ⟨⟨none, n, w, rfl, hq, by rw [ht]; exact hw⟩, hS.F ht⟩) hS.2.2 hd E.2.2.2.2.2.2.2.1
theorem V_aret {a : Nat} {rt : FieldType} (hd : decode Y.2.1 pc = .ok (.areturn, 1)) (hr : Y.2.2.2 = some rt) (hrt : (∃ n, rt = .object n) ∨ ∃ t, rt = .array t) (hc : kc ≤ R.cells) (hs : ks ≤ R.slots) (hq : Q (some (.ref a)) n w) : V Y R Q pc lv [.ref a] n w kc ks := by
  intro p l e s m args below meth c b sa cA D H locs ls E hw hS hb hl
  refine W.widen hc hs ?_
  exact W.aret (v := .ref (b + a)) E.1 E.2.1 (E.2.2.1.trans hr) hrt (Or.inr ⟨_, rfl⟩) (fun t ht hW => ⟨⟨some (.ref a), n, w, rfl, hq, by rw [ht]; exact hw⟩, hS.F ht⟩) hS.2.2 hd E.2.2.2.2.2.2.2.1
end VHEAP
end
section
/-! ===== calls ===== -/
def vCode (Y : vMeth) : Cond := Cond.code Y.1 Y.2.1 Y.2.2.1 Y.2.2.2
def okDesc (Y : vMeth) (N : Nat) : Prop := Y.1.cls ≠ "java/lang/invoke/MethodHandle" ∧ Y.1.cls ≠ "java/lang/invoke/VarHandle" ∧ (parseMethodDescriptor Y.1.desc).map (fun d => d.parameters.length) = some N
/-- a method that the tables tell of: its code, its class begun, how many arguments -/
def okM (Y : vMeth) (N : Nat) : Prop := vCode Y ∈ vU ∧ Cond.initialized Y.1.cls ∈ vU ∧ okDesc Y N
def okV (Y : vMeth) : Prop := Cond.instanceMethod Y.1 ∈ vU ∧ Cond.selects Y.1.cls Y.1 Y.1 ∈ vU
/-- a call's link: plain, or of a nest mate -/
def okL (own : String) (idx : Nat) (Y : vMeth) : Prop := Cond.methodLink own idx Y.1 ∈ vU ∨ ∃ host, Cond.methodLinkNest own idx Y.1 host ∈ lw_tbl
theorem vU_cons {Y : vMeth} (h : vCode Y ∈ vU) : GoodIn vU (Cond.code Y.1 Y.2.1 Y.2.2.1 Y.2.2.2 :: vU) := fun w hw => (List.mem_cons.mp hw).elim (fun e => by rw [e]; exact vU_good _ h) (fun h => vU_good w h)
def rmOK (R : Room) (Y2 : vMeth) (R2 : Room) (kc ks : Nat) (rest : List Value) : Bool :=
  Nat.ble (R2.frames + 1) R.frames && (Nat.ble (8 + (Y2.2.2.1 + 11) + R2.locals) R.locals && (Nat.ble (kc + R2.cells) R.cells && (Nat.ble (ks + R2.slots) R.slots && Nat.ble (rest.map fun v => v.category).sum 8)))
theorem rmOK_spec {R : Room} {Y2 : vMeth} {R2 : Room} {kc ks : Nat} {rest : List Value} (h : rmOK R Y2 R2 kc ks rest = true) : (R2.frames + 1 ≤ R.frames ∧ 8 + (Y2.2.2.1 + 11) + R2.locals ≤ R.locals) ∧ (kc + R2.cells ≤ R.cells ∧ ks + R2.slots ≤ R.slots) ∧ (rest.map fun v => v.category).sum ≤ 8 := by
  simp only [rmOK, Bool.and_eq_true] at h
  exact ⟨⟨Nat.le_of_ble_eq_true h.1, Nat.le_of_ble_eq_true h.2.1⟩, ⟨Nat.le_of_ble_eq_true h.2.2.1, Nat.le_of_ble_eq_true h.2.2.2.1⟩, Nat.le_of_ble_eq_true h.2.2.2.2⟩
theorem cat_rest (b : Nat) (sa : Nat → Nat) (rest : List Value) : ((rest.map (cvV b sa)).map fun v => v.category) = rest.map fun v => v.category := by
  rw [List.map_map]; exact List.map_congr_left (fun v _ => cvV_cat b sa v)
theorem vPre_blind (av : List Value) (b : Nat) (sa cA : Nat → Nat) (D : va_G) (n : Nat) (w : vWd) : FrameBlind (va_Pc av (vPre b sa cA D n w)) := by
  rintro a U g mk ⟨q0, q1, q2, q3, q4⟩
  exact ⟨q0, q1, va_K.moved (u := U) (U := U.calling g mk a) (Vm.Alike.refl U.vm) q2, vStr.same (s := U) (U := U.calling g mk a) rfl rfl q3, vNst.same (s := U) (U := U.calling g mk a) rfl q4⟩
section VCALL
variable {p : Program} {l : Launch} {e : Env} {R : Room} {s : State} {m : MethodId} {args : Array Value} {below : List Frame} {meth : Method} {c : Code} {H : Heap} {locs : List Loc}
variable {Y : vMeth} {Q : vPost} {pc : Nat} {lv : vLs} {st : List Value} {n : Nat} {w : vWd} {kc ks : Nat} {b : Nat} {sa cA : Nat → Nat} {D : va_G} {ls : Array Slot}
theorem vPre_at {Y2 : vMeth} {av : List Value} (E : vEnv Y p s m args meth c b sa cA D) (hw : wOK b sa cA D n w H) (hS : va_S (fB b) s.heap H locs) (U : State) (hU : U.heap = H) (hW : s.WarmedH U.vm) : va_Pc av (vPre b sa cA D n w) av.toArray U := by
  refine ⟨rfl, by rw [hU]; exact hw, E.2.2.2.2.2.2.2.2.1.moved hW.alike, E.2.2.2.2.2.2.2.2.2.1.warm hW (fun a ha hna => by rw [hU]; exact hS.2.1 a ha hna), E.2.2.2.2.2.2.2.2.2.2.warm hW⟩
/-- behind a call -/
theorem V_back {Y2 : vMeth} {R2 : Room} {rest : List Value} {av : List Value} {Q2 : vPost} {a : Array Value} {st0 : List Value} (hr : va_Run p l e R s m args below meth c H locs kc ks R2.cells R2.slots (F0 m pc ls st0) (rest.map (cvV b sa)) (vZ b sa cA D Q2 a) (fB b))
    (E : vEnv Y p s m args meth c b sa cA D) (hw : wOK b sa cA D n w H) (hS : va_S (fB b) s.heap H locs) (hb : b ≤ s.heap.size) (hl : lvOK b sa ls Y.2.2.1 lv)
    (kk : ∀ (r : Option Value) (n' : Nat) (w' : vWd), Q2 r n' w' → V Y R Q (pc + 3) lv (r.toList ++ rest) n' w' (kc + R2.cells) (ks + R2.slots)) : W p l e R s m args below meth c H locs kc ks (MQ below (vZ b sa cA D Q) args s R.cells R.slots (fB b)) (F0 m pc ls st0) := by
  intro T hT X
  obtain ⟨v, st₀, t, T', L, h0, X', hL, e1, e2, ⟨⟨r, n', w', hv, hQ, hO⟩, hz, hk⟩, stp⟩ := hr T hT X
  have hv' : v = r.map (cvV b sa) := Outcome.returned.inj hv
  subst hv'
  rw [h0] at hz hk
  have hs : (r.map (cvV b sa)).toList ++ rest.map (cvV b sa) = (r.toList ++ rest).map (cvV b sa) := by cases r <;> simp
  have K := kk r n' w' hQ p l e s m args below meth c b sa cA D T'.heap (locs ++ L) ls E (by rw [e1]; exact hO)
    ⟨Nat.le_trans hS.1 (by rw [e1]; exact hz), fun q h1 h2 => by rw [e1, hk q (Nat.lt_of_lt_of_le h1 hS.1) h2]; exact hS.2.1 q h1 h2, fun q hq => by
      rcases List.mem_append.mp hq with h | h
      · exact hS.2.2 q h
      · exact hL q h⟩ hb hl
  rw [← hs] at K
  obtain ⟨t2, a1, b1⟩ := K T' rfl X'
  exact ⟨t2, stp t2 a1, b1⟩
end VCALL
section VCALLS
variable {Y : vMeth} {R : Room} {Q : vPost} {pc : Nat} {lv : vLs} {st : List Value} {n : Nat} {w : vWd} {kc ks : Nat} {Y2 : vMeth} {R2 : Room} {As rest : List Value} {Q2 : vPost} {N idx a : Nat}
theorem V_callV {ci : Nat} {fs : List Value} {q : vw_C} (hd : decode Y.2.1 pc = .ok (.invokevirtual idx, 3)) (hM : okM Y2 N) (hV : okV Y2) (hL : okL Y.1.cls idx Y2) (hC : Ctr Y2 R2 (.ref a :: As) n w Q2) (hw0 : w a = some (.inr (ci, fs))) (hq : vwCl[ci]? = some q) (hq1 : q.1 = Y2.1.cls) (hn : As.length = N) (hst : As.reverse ++ .ref a :: rest = st) (hR : rmOK R Y2 R2 kc ks rest = true)
    (kk : ∀ (r : Option Value) (n' : Nat) (w' : vWd), Q2 r n' w' → V Y R Q (pc + 3) lv (r.toList ++ rest) n' w' (kc + R2.cells) (ks + R2.slots)) : V Y R Q pc lv st n w kc ks := by
  intro p l e s m args below meth c b sa cA D H locs ls E hw hS hb hl
  have hts := E.2.2.2.2.2.1
  obtain ⟨r1, r2, r3⟩ := rmOK_spec hR
  have hstk : st.map (cvV b sa) = (As.map (cvV b sa)).reverse ++ .ref (b + a) :: rest.map (cvV b sa) := by
    rw [← hst, List.map_append, List.map_reverse, List.map_cons]; rfl
  have hpre : PreV s H Y2.1.cls (b + a) (va_Pc ((Value.ref a :: As).map (cvV b sa)) (vPre b sa cA D n w)) (As.map (cvV b sa)) := by
    refine ⟨vPre_blind _ b sa cA D n w, ?_, fun U hU hW => vPre_at (Y2 := Y2) E hw hS U hU hW⟩
    rw [← hq1]
    exact va_recv E.2.2.2.2.2.2.2.2.1 (hw.P hw0) hq (q0 := 0) rfl
  have hfix : CallFix p m c Y.2.1 Y.2.2.1 s args vU Y.1.cls := ⟨E.1, E.2.1, E.2.2.2.1, E.2.2.2.2.1, hts⟩
  refine V_back (Y2 := Y2) (R2 := R2) (av := .ref a :: As) (a := (Value.ref (b + a) :: As.map (cvV b sa)).toArray) ?_ E hw hS hb hl kk
  rw [hstk]
  have hroom : 2 * (F0 m pc ls ((As.map (cvV b sa)).reverse ++ .ref (b + a) :: rest.map (cvV b sa))).monitorRoom + ((rest.map (cvV b sa)).map fun v => v.category).sum ≤ 8 := by
    rw [cat_rest]; show 2 * 0 + _ ≤ 8; omega
  rcases hL with hL | ⟨host, hL⟩
  · refine va_runV hfix (hC l b sa cA D) (cwV N hts (fun w0 h0 => vU_good _ ?_) rfl rfl rfl ⟨rfl, hM.2.2⟩ r1) hpre rfl (by rw [List.length_map]; exact hn) hl.1 rfl hroom hd r2
    rcases List.mem_append.mp h0 with h1 | h1
    · simp only [List.mem_cons, List.not_mem_nil, or_false] at h1
      rcases h1 with rfl | rfl | rfl | rfl
      · exact hL
      · exact hV.1
      · exact hV.2
      · exact hM.2.1
    · exact (vU_cons hM.1 w0 h1).1
  · refine va_runVN hfix (hC l b sa cA D) ⟨va_cnB (host := host) N hts (vU_cons hM.1) rfl rfl rfl (E.2.2.2.2.2.2.2.2.2.2 _ hL rfl) (hts _ hM.2.1) hM.2.2 r1, hts _ hV.1, hts _ hV.2⟩ hpre rfl (by rw [List.length_map]; exact hn) hl.1 rfl hroom hd r2
theorem V_callS (hd : decode Y.2.1 pc = .ok (.invokestatic idx, 3)) (hM : okM Y2 N) (hV : Cond.static Y2.1 ∈ vU) (hL : okL Y.1.cls idx Y2) (hC : Ctr Y2 R2 As n w Q2) (hn : As.length = N) (hst : As.reverse ++ rest = st) (hR : rmOK R Y2 R2 kc ks rest = true)
    (kk : ∀ (r : Option Value) (n' : Nat) (w' : vWd), Q2 r n' w' → V Y R Q (pc + 3) lv (r.toList ++ rest) n' w' (kc + R2.cells) (ks + R2.slots)) : V Y R Q pc lv st n w kc ks := by
  intro p l e s m args below meth c b sa cA D H locs ls E hw hS hb hl
  have hts := E.2.2.2.2.2.1
  obtain ⟨r1, r2, r3⟩ := rmOK_spec hR
  have hstk : st.map (cvV b sa) = (As.map (cvV b sa)).reverse ++ rest.map (cvV b sa) := by
    rw [← hst, List.map_append, List.map_reverse]
  have hpre : PreS s H (va_Pc (As.map (cvV b sa)) (vPre b sa cA D n w)) (As.map (cvV b sa)) := ⟨vPre_blind _ b sa cA D n w, fun U hU hW => vPre_at (Y2 := Y2) E hw hS U hU hW⟩
  have hfix : CallFix p m c Y.2.1 Y.2.2.1 s args vU Y.1.cls := ⟨E.1, E.2.1, E.2.2.2.1, E.2.2.2.2.1, hts⟩
  refine V_back (Y2 := Y2) (R2 := R2) (av := As) (a := (As.map (cvV b sa)).toArray) ?_ E hw hS hb hl kk
  rw [hstk]
  have hroom : 2 * (F0 m pc ls ((As.map (cvV b sa)).reverse ++ rest.map (cvV b sa))).monitorRoom + ((rest.map (cvV b sa)).map fun v => v.category).sum ≤ 8 := by
    rw [cat_rest]; show 2 * 0 + _ ≤ 8; omega
  rcases hL with hL | ⟨host, hL⟩
  · refine va_runS hfix (hC l b sa cA D) (va_cwS N hts (fun w0 h0 => vU_good _ ?_) rfl rfl rfl hM.2.2 r1) hpre rfl (by rw [List.length_map]; exact hn) hl.1 rfl hroom hd r2
    rcases List.mem_append.mp h0 with h1 | h1
    · simp only [List.mem_cons, List.not_mem_nil, or_false] at h1
      rcases h1 with rfl | rfl | rfl
      · exact hL
      · exact hV
      · exact hM.2.1
    · exact (vU_cons hM.1 w0 h1).1
  · refine va_runSN hfix (hC l b sa cA D) ⟨va_cnB (host := host) N hts (vU_cons hM.1) rfl rfl rfl (E.2.2.2.2.2.2.2.2.2.2 _ hL rfl) (hts _ hM.2.1) hM.2.2 r1, hts _ hV, trivial⟩ hpre rfl (by rw [List.length_map]; exact hn) hl.1 rfl hroom hd r2
theorem V_callI (hd : decode Y.2.1 pc = .ok (.invokespecial idx, 3)) (hM : okM Y2 N) (hV : Cond.instanceMethod Y2.1 ∈ vU) (hret : Y2.2.2.2 = none) (hnm : Y2.1.name = "<init>") (hL : okL Y.1.cls idx Y2) (hC : Ctr Y2 R2 (.ref a :: As) n w Q2) (hn : As.length = N) (hst : As.reverse ++ .ref a :: rest = st) (hR : rmOK R Y2 R2 kc ks rest = true)
    (kk : ∀ (r : Option Value) (n' : Nat) (w' : vWd), Q2 r n' w' → V Y R Q (pc + 3) lv (r.toList ++ rest) n' w' (kc + R2.cells) (ks + R2.slots)) : V Y R Q pc lv st n w kc ks := by
  intro p l e s m args below meth c b sa cA D H locs ls E hw hS hb hl
  obtain ⟨y2, c2, m2, t2⟩ := Y2
  have ht2 : t2 = none := hret
  subst ht2
  have hts := E.2.2.2.2.2.1
  obtain ⟨r1, r2, r3⟩ := rmOK_spec hR
  have hstk : st.map (cvV b sa) = (As.map (cvV b sa)).reverse ++ .ref (b + a) :: rest.map (cvV b sa) := by
    rw [← hst, List.map_append, List.map_reverse, List.map_cons]; rfl
  have hpre : PreS s H (va_Pc ((Value.ref a :: As).map (cvV b sa)) (vPre b sa cA D n w)) ((Value.ref a :: As).map (cvV b sa)) := ⟨vPre_blind _ b sa cA D n w, fun U hU hW => vPre_at (Y2 := (y2, c2, m2, none)) E hw hS U hU hW⟩
  have hfix : CallFix p m c Y.2.1 Y.2.2.1 s args vU Y.1.cls := ⟨E.1, E.2.1, E.2.2.2.1, E.2.2.2.2.1, hts⟩
  refine V_back (Y2 := (y2, c2, m2, none)) (R2 := R2) (av := .ref a :: As) (a := (Value.ref (b + a) :: As.map (cvV b sa)).toArray) ?_ E hw hS hb hl kk
  rw [hstk]
  have hroom : 2 * (F0 m pc ls ((As.map (cvV b sa)).reverse ++ .ref (b + a) :: rest.map (cvV b sa))).monitorRoom + ((rest.map (cvV b sa)).map fun v => v.category).sum ≤ 8 := by
    rw [cat_rest]; show 2 * 0 + _ ≤ 8; omega
  rcases hL with hL | ⟨host, hL⟩
  · exact va_runI (b := b + a) (As := As.map (cvV b sa)) hfix (hC l b sa cA D) (cwI N hts (vU_cons hM.1) rfl rfl rfl (hts _ hM.2.1) (hts _ hL) (hts _ hV) hnm hM.2.2 r1) hpre rfl (by rw [List.length_map]; exact hn) hl.1 rfl hroom hd r2
  · exact va_runIN (b := b + a) (As := As.map (cvV b sa)) hfix (hC l b sa cA D) ⟨va_cnB (host := host) N hts (vU_cons hM.1) rfl rfl rfl (E.2.2.2.2.2.2.2.2.2.2 _ hL rfl) (hts _ hM.2.1) hM.2.2 r1, hnm, hts _ hV⟩ hpre rfl (by rw [List.length_map]; exact hn) hl.1 rfl hroom hd r2
end VCALLS
end
section
/-! ===== the tables, by places: fields, methods, calls (written by wip/whole/mk07.py) ===== -/
theorem vU_sub (ws : List Cond) (ps : List Nat) (h : ws.map some = ps.map (fun i => lw_tbl[i]?)) (g : ws.all goodWord = true) : ∀ w ∈ ws, w ∈ vU := by
  intro w hw
  have h1 : some w ∈ ws.map some := List.mem_map.mpr ⟨w, hw, rfl⟩
  rw [h] at h1
  obtain ⟨i, -, hi⟩ := List.mem_map.mp h1
  exact vU_mem i hi (List.all_eq_true.mp g w hw)
theorem inU_X0 : ∀ w ∈ u_ws RX0 TX0 2, w ∈ vU := vU_sub _ [251, 253] (by decide +kernel) (by decide +kernel)
theorem inU_X1 : ∀ w ∈ u_ws RX1 TX1 5, w ∈ vU := vU_sub _ [178, 180, 182, 184, 186] (by decide +kernel) (by decide +kernel)
theorem inU_X2 : ∀ w ∈ u_ws RX2 TX2 2, w ∈ vU := vU_sub _ [87, 89] (by decide +kernel) (by decide +kernel)
theorem inU_X3 : ∀ w ∈ u_ws RX3 TX3 11, w ∈ vU := vU_sub _ [218, 220, 222, 224, 226, 228, 230, 232, 234, 236, 238] (by decide +kernel) (by decide +kernel)
theorem inU_X4 : ∀ w ∈ u_ws RX4 TX4 14, w ∈ vU := vU_sub _ [134, 136, 138, 140, 142, 144, 146, 148, 150, 152, 154, 156, 158, 160] (by decide +kernel) (by decide +kernel)
theorem inU_X5 : ∀ w ∈ u_ws RX5 TX5 15, w ∈ vU := vU_sub _ [271, 273, 275, 277, 279, 281, 283, 285, 287, 289, 291, 293, 295, 297, 299] (by decide +kernel) (by decide +kernel)
theorem inU_X6 : ∀ w ∈ u_ws RX6 TX6 20, w ∈ vU := vU_sub _ [837, 839, 841, 843, 845, 847, 849, 851, 853, 855, 857, 859, 861, 863, 865, 867, 869, 871, 873, 875] (by decide +kernel) (by decide +kernel)
theorem fl_X2_19 : FL RX2 19 2 0 (.array .int) true := ⟨RX2, TX2, 2, tyX2, rfl, by decide, inU_X2, tyX2_ok, nmX2, rfl, rfl, rfl, Or.inl (vU_mem 85 (by decide +kernel) rfl)⟩
theorem ff_X2_19 : ∀ C T N, vwCl[2]? = some (C, T, N) → Cond.fieldLink RX2 19 C (T 0).2.1 (T 0).2.2.1 ∈ vU := fun C T N h => by cases h; exact vU_mem 85 (by decide +kernel) rfl
theorem fl_X2_7 : FL RX2 7 2 1 .int false := ⟨RX2, TX2, 2, tyX2, rfl, by decide, inU_X2, tyX2_ok, nmX2, rfl, rfl, rfl, Or.inl (vU_mem 86 (by decide +kernel) rfl)⟩
theorem fl_X4_9 : FL RX4 9 4 0 .int false := ⟨RX4, TX4, 14, tyX4, rfl, by decide, inU_X4, tyX4_ok, nmX4, rfl, rfl, rfl, Or.inl (vU_mem 105 (by decide +kernel) rfl)⟩
theorem fl_X3_56 : FL RX3 56 4 0 .int false := ⟨RX4, TX4, 14, tyX4, rfl, by decide, inU_X4, tyX4_ok, nmX4, rfl, rfl, rfl, Or.inr ⟨"DrawerWall", List.mem_of_getElem? (i := 106) (by decide +kernel)⟩⟩
theorem fl_X5_199 : FL RX5 199 4 0 .int false := ⟨RX4, TX4, 14, tyX4, rfl, by decide, inU_X4, tyX4_ok, nmX4, rfl, rfl, rfl, Or.inr ⟨"DrawerWall", List.mem_of_getElem? (i := 107) (by decide +kernel)⟩⟩
theorem fl_X4_15 : FL RX4 15 4 1 .int false := ⟨RX4, TX4, 14, tyX4, rfl, by decide, inU_X4, tyX4_ok, nmX4, rfl, rfl, rfl, Or.inl (vU_mem 108 (by decide +kernel) rfl)⟩
theorem fl_X5_141 : FL RX5 141 4 1 .int false := ⟨RX4, TX4, 14, tyX4, rfl, by decide, inU_X4, tyX4_ok, nmX4, rfl, rfl, rfl, Or.inr ⟨"DrawerWall", List.mem_of_getElem? (i := 109) (by decide +kernel)⟩⟩
theorem fl_X4_18 : FL RX4 18 4 2 .int false := ⟨RX4, TX4, 14, tyX4, rfl, by decide, inU_X4, tyX4_ok, nmX4, rfl, rfl, rfl, Or.inl (vU_mem 110 (by decide +kernel) rfl)⟩
theorem fl_X4_21 : FL RX4 21 4 3 .int false := ⟨RX4, TX4, 14, tyX4, rfl, by decide, inU_X4, tyX4_ok, nmX4, rfl, rfl, rfl, Or.inl (vU_mem 111 (by decide +kernel) rfl)⟩
theorem fl_X5_100 : FL RX5 100 4 3 .int false := ⟨RX4, TX4, 14, tyX4, rfl, by decide, inU_X4, tyX4_ok, nmX4, rfl, rfl, rfl, Or.inr ⟨"DrawerWall", List.mem_of_getElem? (i := 112) (by decide +kernel)⟩⟩
theorem fl_X4_24 : FL RX4 24 4 4 .int false := ⟨RX4, TX4, 14, tyX4, rfl, by decide, inU_X4, tyX4_ok, nmX4, rfl, rfl, rfl, Or.inl (vU_mem 113 (by decide +kernel) rfl)⟩
theorem fl_X5_103 : FL RX5 103 4 4 .int false := ⟨RX4, TX4, 14, tyX4, rfl, by decide, inU_X4, tyX4_ok, nmX4, rfl, rfl, rfl, Or.inr ⟨"DrawerWall", List.mem_of_getElem? (i := 114) (by decide +kernel)⟩⟩
theorem fl_X4_32 : FL RX4 32 4 5 (.object "DrawerWall$Row") true := ⟨RX4, TX4, 14, tyX4, rfl, by decide, inU_X4, tyX4_ok, nmX4, rfl, rfl, rfl, Or.inl (vU_mem 115 (by decide +kernel) rfl)⟩
theorem ff_X4_32 : ∀ C T N, vwCl[4]? = some (C, T, N) → Cond.fieldLink RX4 32 C (T 5).2.1 (T 5).2.2.1 ∈ vU := fun C T N h => by cases h; exact vU_mem 115 (by decide +kernel) rfl
theorem fl_X5_221 : FL RX5 221 4 5 (.object "DrawerWall$Row") true := ⟨RX4, TX4, 14, tyX4, rfl, by decide, inU_X4, tyX4_ok, nmX4, rfl, rfl, rfl, Or.inr ⟨"DrawerWall", List.mem_of_getElem? (i := 116) (by decide +kernel)⟩⟩
theorem fl_X4_36 : FL RX4 36 4 6 (.object "DrawerWall$Row") true := ⟨RX4, TX4, 14, tyX4, rfl, by decide, inU_X4, tyX4_ok, nmX4, rfl, rfl, rfl, Or.inl (vU_mem 117 (by decide +kernel) rfl)⟩
theorem ff_X4_36 : ∀ C T N, vwCl[4]? = some (C, T, N) → Cond.fieldLink RX4 36 C (T 6).2.1 (T 6).2.2.1 ∈ vU := fun C T N h => by cases h; exact vU_mem 117 (by decide +kernel) rfl
theorem fl_X5_182 : FL RX5 182 4 6 (.object "DrawerWall$Row") true := ⟨RX4, TX4, 14, tyX4, rfl, by decide, inU_X4, tyX4_ok, nmX4, rfl, rfl, rfl, Or.inr ⟨"DrawerWall", List.mem_of_getElem? (i := 118) (by decide +kernel)⟩⟩
theorem fl_X4_39 : FL RX4 39 4 7 (.object "DrawerWall$Row") true := ⟨RX4, TX4, 14, tyX4, rfl, by decide, inU_X4, tyX4_ok, nmX4, rfl, rfl, rfl, Or.inl (vU_mem 119 (by decide +kernel) rfl)⟩
theorem ff_X4_39 : ∀ C T N, vwCl[4]? = some (C, T, N) → Cond.fieldLink RX4 39 C (T 7).2.1 (T 7).2.2.1 ∈ vU := fun C T N h => by cases h; exact vU_mem 119 (by decide +kernel) rfl
theorem fl_X5_260 : FL RX5 260 4 7 (.object "DrawerWall$Row") true := ⟨RX4, TX4, 14, tyX4, rfl, by decide, inU_X4, tyX4_ok, nmX4, rfl, rfl, rfl, Or.inr ⟨"DrawerWall", List.mem_of_getElem? (i := 120) (by decide +kernel)⟩⟩
theorem fl_X4_42 : FL RX4 42 4 8 (.object "DrawerWall$Row") true := ⟨RX4, TX4, 14, tyX4, rfl, by decide, inU_X4, tyX4_ok, nmX4, rfl, rfl, rfl, Or.inl (vU_mem 121 (by decide +kernel) rfl)⟩
theorem ff_X4_42 : ∀ C T N, vwCl[4]? = some (C, T, N) → Cond.fieldLink RX4 42 C (T 8).2.1 (T 8).2.2.1 ∈ vU := fun C T N h => by cases h; exact vU_mem 121 (by decide +kernel) rfl
theorem fl_X5_263 : FL RX5 263 4 8 (.object "DrawerWall$Row") true := ⟨RX4, TX4, 14, tyX4, rfl, by decide, inU_X4, tyX4_ok, nmX4, rfl, rfl, rfl, Or.inr ⟨"DrawerWall", List.mem_of_getElem? (i := 122) (by decide +kernel)⟩⟩
theorem fl_X4_45 : FL RX4 45 4 9 (.object "DrawerWall$Row") true := ⟨RX4, TX4, 14, tyX4, rfl, by decide, inU_X4, tyX4_ok, nmX4, rfl, rfl, rfl, Or.inl (vU_mem 123 (by decide +kernel) rfl)⟩
theorem ff_X4_45 : ∀ C T N, vwCl[4]? = some (C, T, N) → Cond.fieldLink RX4 45 C (T 9).2.1 (T 9).2.2.1 ∈ vU := fun C T N h => by cases h; exact vU_mem 123 (by decide +kernel) rfl
theorem fl_X5_266 : FL RX5 266 4 9 (.object "DrawerWall$Row") true := ⟨RX4, TX4, 14, tyX4, rfl, by decide, inU_X4, tyX4_ok, nmX4, rfl, rfl, rfl, Or.inr ⟨"DrawerWall", List.mem_of_getElem? (i := 124) (by decide +kernel)⟩⟩
theorem fl_X4_48 : FL RX4 48 4 10 (.object "DrawerWall$Row") true := ⟨RX4, TX4, 14, tyX4, rfl, by decide, inU_X4, tyX4_ok, nmX4, rfl, rfl, rfl, Or.inl (vU_mem 125 (by decide +kernel) rfl)⟩
theorem ff_X4_48 : ∀ C T N, vwCl[4]? = some (C, T, N) → Cond.fieldLink RX4 48 C (T 10).2.1 (T 10).2.2.1 ∈ vU := fun C T N h => by cases h; exact vU_mem 125 (by decide +kernel) rfl
theorem fl_X0_18 : FL RX0 18 4 10 (.object "DrawerWall$Row") true := ⟨RX4, TX4, 14, tyX4, rfl, by decide, inU_X4, tyX4_ok, nmX4, rfl, rfl, rfl, Or.inr ⟨"DrawerWall", List.mem_of_getElem? (i := 126) (by decide +kernel)⟩⟩
theorem fl_X5_240 : FL RX5 240 4 10 (.object "DrawerWall$Row") true := ⟨RX4, TX4, 14, tyX4, rfl, by decide, inU_X4, tyX4_ok, nmX4, rfl, rfl, rfl, Or.inr ⟨"DrawerWall", List.mem_of_getElem? (i := 127) (by decide +kernel)⟩⟩
theorem fl_X4_51 : FL RX4 51 4 11 (.object "DrawerWall$Row") true := ⟨RX4, TX4, 14, tyX4, rfl, by decide, inU_X4, tyX4_ok, nmX4, rfl, rfl, rfl, Or.inl (vU_mem 128 (by decide +kernel) rfl)⟩
theorem ff_X4_51 : ∀ C T N, vwCl[4]? = some (C, T, N) → Cond.fieldLink RX4 51 C (T 11).2.1 (T 11).2.2.1 ∈ vU := fun C T N h => by cases h; exact vU_mem 128 (by decide +kernel) rfl
theorem fl_X5_234 : FL RX5 234 4 11 (.object "DrawerWall$Row") true := ⟨RX4, TX4, 14, tyX4, rfl, by decide, inU_X4, tyX4_ok, nmX4, rfl, rfl, rfl, Or.inr ⟨"DrawerWall", List.mem_of_getElem? (i := 129) (by decide +kernel)⟩⟩
theorem fl_X4_54 : FL RX4 54 4 12 (.object "DrawerWall$Row") true := ⟨RX4, TX4, 14, tyX4, rfl, by decide, inU_X4, tyX4_ok, nmX4, rfl, rfl, rfl, Or.inl (vU_mem 130 (by decide +kernel) rfl)⟩
theorem ff_X4_54 : ∀ C T N, vwCl[4]? = some (C, T, N) → Cond.fieldLink RX4 54 C (T 12).2.1 (T 12).2.2.1 ∈ vU := fun C T N h => by cases h; exact vU_mem 130 (by decide +kernel) rfl
theorem fl_X5_237 : FL RX5 237 4 12 (.object "DrawerWall$Row") true := ⟨RX4, TX4, 14, tyX4, rfl, by decide, inU_X4, tyX4_ok, nmX4, rfl, rfl, rfl, Or.inr ⟨"DrawerWall", List.mem_of_getElem? (i := 131) (by decide +kernel)⟩⟩
theorem fl_X4_57 : FL RX4 57 4 13 (.object "DrawerWall$Row") true := ⟨RX4, TX4, 14, tyX4, rfl, by decide, inU_X4, tyX4_ok, nmX4, rfl, rfl, rfl, Or.inl (vU_mem 132 (by decide +kernel) rfl)⟩
theorem ff_X4_57 : ∀ C T N, vwCl[4]? = some (C, T, N) → Cond.fieldLink RX4 57 C (T 13).2.1 (T 13).2.2.1 ∈ vU := fun C T N h => by cases h; exact vU_mem 132 (by decide +kernel) rfl
theorem fl_X5_148 : FL RX5 148 4 13 (.object "DrawerWall$Row") true := ⟨RX4, TX4, 14, tyX4, rfl, by decide, inU_X4, tyX4_ok, nmX4, rfl, rfl, rfl, Or.inr ⟨"DrawerWall", List.mem_of_getElem? (i := 133) (by decide +kernel)⟩⟩
theorem fl_X1_14 : FL RX1 14 1 0 (.object "DrawerWall$Row") true := ⟨RX1, TX1, 5, tyX1, rfl, by decide, inU_X1, tyX1_ok, nmX1, rfl, rfl, rfl, Or.inl (vU_mem 173 (by decide +kernel) rfl)⟩
theorem ff_X1_14 : ∀ C T N, vwCl[1]? = some (C, T, N) → Cond.fieldLink RX1 14 C (T 0).2.1 (T 0).2.2.1 ∈ vU := fun C T N h => by cases h; exact vU_mem 173 (by decide +kernel) rfl
theorem fl_X1_20 : FL RX1 20 1 1 (.object "DrawerWall$Row") true := ⟨RX1, TX1, 5, tyX1, rfl, by decide, inU_X1, tyX1_ok, nmX1, rfl, rfl, rfl, Or.inl (vU_mem 174 (by decide +kernel) rfl)⟩
theorem ff_X1_20 : ∀ C T N, vwCl[1]? = some (C, T, N) → Cond.fieldLink RX1 20 C (T 1).2.1 (T 1).2.2.1 ∈ vU := fun C T N h => by cases h; exact vU_mem 174 (by decide +kernel) rfl
theorem fl_X1_23 : FL RX1 23 1 2 .int false := ⟨RX1, TX1, 5, tyX1, rfl, by decide, inU_X1, tyX1_ok, nmX1, rfl, rfl, rfl, Or.inl (vU_mem 175 (by decide +kernel) rfl)⟩
theorem fl_X1_27 : FL RX1 27 1 3 .int false := ⟨RX1, TX1, 5, tyX1, rfl, by decide, inU_X1, tyX1_ok, nmX1, rfl, rfl, rfl, Or.inl (vU_mem 176 (by decide +kernel) rfl)⟩
theorem fl_X1_30 : FL RX1 30 1 4 .int false := ⟨RX1, TX1, 5, tyX1, rfl, by decide, inU_X1, tyX1_ok, nmX1, rfl, rfl, rfl, Or.inl (vU_mem 177 (by decide +kernel) rfl)⟩
theorem fl_X3_14 : FL RX3 14 3 0 (.object "DrawerWall$Row") true := ⟨RX3, TX3, 11, tyX3, rfl, by decide, inU_X3, tyX3_ok, nmX3, rfl, rfl, rfl, Or.inl (vU_mem 204 (by decide +kernel) rfl)⟩
theorem ff_X3_14 : ∀ C T N, vwCl[3]? = some (C, T, N) → Cond.fieldLink RX3 14 C (T 0).2.1 (T 0).2.2.1 ∈ vU := fun C T N h => by cases h; exact vU_mem 204 (by decide +kernel) rfl
theorem fl_X3_20 : FL RX3 20 3 1 (.object "DrawerWall$Row") true := ⟨RX3, TX3, 11, tyX3, rfl, by decide, inU_X3, tyX3_ok, nmX3, rfl, rfl, rfl, Or.inl (vU_mem 205 (by decide +kernel) rfl)⟩
theorem ff_X3_20 : ∀ C T N, vwCl[3]? = some (C, T, N) → Cond.fieldLink RX3 20 C (T 1).2.1 (T 1).2.2.1 ∈ vU := fun C T N h => by cases h; exact vU_mem 205 (by decide +kernel) rfl
theorem fl_X0_50 : FL RX0 50 3 1 (.object "DrawerWall$Row") true := ⟨RX3, TX3, 11, tyX3, rfl, by decide, inU_X3, tyX3_ok, nmX3, rfl, rfl, rfl, Or.inr ⟨"DrawerWall", List.mem_of_getElem? (i := 206) (by decide +kernel)⟩⟩
theorem fl_X5_295 : FL RX5 295 3 1 (.object "DrawerWall$Row") true := ⟨RX3, TX3, 11, tyX3, rfl, by decide, inU_X3, tyX3_ok, nmX3, rfl, rfl, rfl, Or.inr ⟨"DrawerWall", List.mem_of_getElem? (i := 207) (by decide +kernel)⟩⟩
theorem fl_X3_23 : FL RX3 23 3 2 (.object "DrawerWall$Row") true := ⟨RX3, TX3, 11, tyX3, rfl, by decide, inU_X3, tyX3_ok, nmX3, rfl, rfl, rfl, Or.inl (vU_mem 208 (by decide +kernel) rfl)⟩
theorem ff_X3_23 : ∀ C T N, vwCl[3]? = some (C, T, N) → Cond.fieldLink RX3 23 C (T 2).2.1 (T 2).2.2.1 ∈ vU := fun C T N h => by cases h; exact vU_mem 208 (by decide +kernel) rfl
theorem fl_X3_26 : FL RX3 26 3 3 (.object "DrawerWall$Row") true := ⟨RX3, TX3, 11, tyX3, rfl, by decide, inU_X3, tyX3_ok, nmX3, rfl, rfl, rfl, Or.inl (vU_mem 209 (by decide +kernel) rfl)⟩
theorem ff_X3_26 : ∀ C T N, vwCl[3]? = some (C, T, N) → Cond.fieldLink RX3 26 C (T 3).2.1 (T 3).2.2.1 ∈ vU := fun C T N h => by cases h; exact vU_mem 209 (by decide +kernel) rfl
theorem fl_X3_29 : FL RX3 29 3 4 (.object "DrawerWall$Row") true := ⟨RX3, TX3, 11, tyX3, rfl, by decide, inU_X3, tyX3_ok, nmX3, rfl, rfl, rfl, Or.inl (vU_mem 210 (by decide +kernel) rfl)⟩
theorem ff_X3_29 : ∀ C T N, vwCl[3]? = some (C, T, N) → Cond.fieldLink RX3 29 C (T 4).2.1 (T 4).2.2.1 ∈ vU := fun C T N h => by cases h; exact vU_mem 210 (by decide +kernel) rfl
theorem fl_X5_275 : FL RX5 275 3 4 (.object "DrawerWall$Row") true := ⟨RX3, TX3, 11, tyX3, rfl, by decide, inU_X3, tyX3_ok, nmX3, rfl, rfl, rfl, Or.inr ⟨"DrawerWall", List.mem_of_getElem? (i := 211) (by decide +kernel)⟩⟩
theorem fl_X3_32 : FL RX3 32 3 5 .boolean false := ⟨RX3, TX3, 11, tyX3, rfl, by decide, inU_X3, tyX3_ok, nmX3, rfl, rfl, rfl, Or.inl (vU_mem 212 (by decide +kernel) rfl)⟩
theorem fl_X3_36 : FL RX3 36 3 6 .int false := ⟨RX3, TX3, 11, tyX3, rfl, by decide, inU_X3, tyX3_ok, nmX3, rfl, rfl, rfl, Or.inl (vU_mem 213 (by decide +kernel) rfl)⟩
theorem fl_X3_40 : FL RX3 40 3 7 .int false := ⟨RX3, TX3, 11, tyX3, rfl, by decide, inU_X3, tyX3_ok, nmX3, rfl, rfl, rfl, Or.inl (vU_mem 214 (by decide +kernel) rfl)⟩
theorem fl_X3_43 : FL RX3 43 3 8 .int false := ⟨RX3, TX3, 11, tyX3, rfl, by decide, inU_X3, tyX3_ok, nmX3, rfl, rfl, rfl, Or.inl (vU_mem 215 (by decide +kernel) rfl)⟩
theorem fl_X3_46 : FL RX3 46 3 9 .int false := ⟨RX3, TX3, 11, tyX3, rfl, by decide, inU_X3, tyX3_ok, nmX3, rfl, rfl, rfl, Or.inl (vU_mem 216 (by decide +kernel) rfl)⟩
theorem fl_X3_49 : FL RX3 49 3 10 .int false := ⟨RX3, TX3, 11, tyX3, rfl, by decide, inU_X3, tyX3_ok, nmX3, rfl, rfl, rfl, Or.inl (vU_mem 217 (by decide +kernel) rfl)⟩
theorem fl_X0_9 : FL RX0 9 0 0 .int false := ⟨RX0, TX0, 2, tyX0, rfl, by decide, inU_X0, tyX0_ok, nmX0, rfl, rfl, rfl, Or.inl (vU_mem 247 (by decide +kernel) rfl)⟩
theorem fl_X5_218 : FL RX5 218 0 0 .int false := ⟨RX0, TX0, 2, tyX0, rfl, by decide, inU_X0, tyX0_ok, nmX0, rfl, rfl, rfl, Or.inr ⟨"DrawerWall", List.mem_of_getElem? (i := 248) (by decide +kernel)⟩⟩
theorem fl_X0_15 : FL RX0 15 0 1 .int false := ⟨RX0, TX0, 2, tyX0, rfl, by decide, inU_X0, tyX0_ok, nmX0, rfl, rfl, rfl, Or.inl (vU_mem 249 (by decide +kernel) rfl)⟩
theorem fl_X5_215 : FL RX5 215 0 1 .int false := ⟨RX0, TX0, 2, tyX0, rfl, by decide, inU_X0, tyX0_ok, nmX0, rfl, rfl, rfl, Or.inr ⟨"DrawerWall", List.mem_of_getElem? (i := 250) (by decide +kernel)⟩⟩
theorem fl_X5_10 : FL RX5 10 5 0 (.object "DrawerWall$Wall") true := ⟨RX5, TX5, 15, tyX5, rfl, by decide, inU_X5, tyX5_ok, nmX5, rfl, rfl, rfl, Or.inl (vU_mem 256 (by decide +kernel) rfl)⟩
theorem ff_X5_10 : ∀ C T N, vwCl[5]? = some (C, T, N) → Cond.fieldLink RX5 10 C (T 0).2.1 (T 0).2.2.1 ∈ vU := fun C T N h => by cases h; exact vU_mem 256 (by decide +kernel) rfl
theorem fl_X5_16 : FL RX5 16 5 1 (.object "DrawerWall$Wall") true := ⟨RX5, TX5, 15, tyX5, rfl, by decide, inU_X5, tyX5_ok, nmX5, rfl, rfl, rfl, Or.inl (vU_mem 257 (by decide +kernel) rfl)⟩
theorem ff_X5_16 : ∀ C T N, vwCl[5]? = some (C, T, N) → Cond.fieldLink RX5 16 C (T 1).2.1 (T 1).2.2.1 ∈ vU := fun C T N h => by cases h; exact vU_mem 257 (by decide +kernel) rfl
theorem fl_X5_19 : FL RX5 19 5 2 (.object "DrawerWall$Wall") true := ⟨RX5, TX5, 15, tyX5, rfl, by decide, inU_X5, tyX5_ok, nmX5, rfl, rfl, rfl, Or.inl (vU_mem 258 (by decide +kernel) rfl)⟩
theorem ff_X5_19 : ∀ C T N, vwCl[5]? = some (C, T, N) → Cond.fieldLink RX5 19 C (T 2).2.1 (T 2).2.2.1 ∈ vU := fun C T N h => by cases h; exact vU_mem 258 (by decide +kernel) rfl
theorem fl_X5_22 : FL RX5 22 5 3 (.object "DrawerWall$Wall") true := ⟨RX5, TX5, 15, tyX5, rfl, by decide, inU_X5, tyX5_ok, nmX5, rfl, rfl, rfl, Or.inl (vU_mem 259 (by decide +kernel) rfl)⟩
theorem ff_X5_22 : ∀ C T N, vwCl[5]? = some (C, T, N) → Cond.fieldLink RX5 22 C (T 3).2.1 (T 3).2.2.1 ∈ vU := fun C T N h => by cases h; exact vU_mem 259 (by decide +kernel) rfl
theorem fl_X5_25 : FL RX5 25 5 4 .boolean false := ⟨RX5, TX5, 15, tyX5, rfl, by decide, inU_X5, tyX5_ok, nmX5, rfl, rfl, rfl, Or.inl (vU_mem 260 (by decide +kernel) rfl)⟩
theorem fl_X5_29 : FL RX5 29 5 5 .boolean false := ⟨RX5, TX5, 15, tyX5, rfl, by decide, inU_X5, tyX5_ok, nmX5, rfl, rfl, rfl, Or.inl (vU_mem 261 (by decide +kernel) rfl)⟩
theorem fl_X5_37 : FL RX5 37 5 6 (.object "DrawerWall$Row") true := ⟨RX5, TX5, 15, tyX5, rfl, by decide, inU_X5, tyX5_ok, nmX5, rfl, rfl, rfl, Or.inl (vU_mem 262 (by decide +kernel) rfl)⟩
theorem ff_X5_37 : ∀ C T N, vwCl[5]? = some (C, T, N) → Cond.fieldLink RX5 37 C (T 6).2.1 (T 6).2.2.1 ∈ vU := fun C T N h => by cases h; exact vU_mem 262 (by decide +kernel) rfl
theorem fl_X5_44 : FL RX5 44 5 7 (.object "DrawerWall$Reader") true := ⟨RX5, TX5, 15, tyX5, rfl, by decide, inU_X5, tyX5_ok, nmX5, rfl, rfl, rfl, Or.inl (vU_mem 263 (by decide +kernel) rfl)⟩
theorem ff_X5_44 : ∀ C T N, vwCl[5]? = some (C, T, N) → Cond.fieldLink RX5 44 C (T 7).2.1 (T 7).2.2.1 ∈ vU := fun C T N h => by cases h; exact vU_mem 263 (by decide +kernel) rfl
theorem fl_X5_51 : FL RX5 51 5 8 (.object "DrawerWall$Walk") true := ⟨RX5, TX5, 15, tyX5, rfl, by decide, inU_X5, tyX5_ok, nmX5, rfl, rfl, rfl, Or.inl (vU_mem 264 (by decide +kernel) rfl)⟩
theorem ff_X5_51 : ∀ C T N, vwCl[5]? = some (C, T, N) → Cond.fieldLink RX5 51 C (T 8).2.1 (T 8).2.2.1 ∈ vU := fun C T N h => by cases h; exact vU_mem 264 (by decide +kernel) rfl
theorem fl_X5_58 : FL RX5 58 5 9 (.object "DrawerWall$Day") true := ⟨RX5, TX5, 15, tyX5, rfl, by decide, inU_X5, tyX5_ok, nmX5, rfl, rfl, rfl, Or.inl (vU_mem 265 (by decide +kernel) rfl)⟩
theorem ff_X5_58 : ∀ C T N, vwCl[5]? = some (C, T, N) → Cond.fieldLink RX5 58 C (T 9).2.1 (T 9).2.2.1 ∈ vU := fun C T N h => by cases h; exact vU_mem 265 (by decide +kernel) rfl
theorem fl_X5_62 : FL RX5 62 5 10 (.object "DrawerWall$Day") true := ⟨RX5, TX5, 15, tyX5, rfl, by decide, inU_X5, tyX5_ok, nmX5, rfl, rfl, rfl, Or.inl (vU_mem 266 (by decide +kernel) rfl)⟩
theorem ff_X5_62 : ∀ C T N, vwCl[5]? = some (C, T, N) → Cond.fieldLink RX5 62 C (T 10).2.1 (T 10).2.2.1 ∈ vU := fun C T N h => by cases h; exact vU_mem 266 (by decide +kernel) rfl
theorem fl_X5_65 : FL RX5 65 5 11 (.object "DrawerWall$Row") true := ⟨RX5, TX5, 15, tyX5, rfl, by decide, inU_X5, tyX5_ok, nmX5, rfl, rfl, rfl, Or.inl (vU_mem 267 (by decide +kernel) rfl)⟩
theorem ff_X5_65 : ∀ C T N, vwCl[5]? = some (C, T, N) → Cond.fieldLink RX5 65 C (T 11).2.1 (T 11).2.2.1 ∈ vU := fun C T N h => by cases h; exact vU_mem 267 (by decide +kernel) rfl
theorem fl_X5_68 : FL RX5 68 5 12 .int false := ⟨RX5, TX5, 15, tyX5, rfl, by decide, inU_X5, tyX5_ok, nmX5, rfl, rfl, rfl, Or.inl (vU_mem 268 (by decide +kernel) rfl)⟩
theorem fl_X5_72 : FL RX5 72 5 13 .int false := ⟨RX5, TX5, 15, tyX5, rfl, by decide, inU_X5, tyX5_ok, nmX5, rfl, rfl, rfl, Or.inl (vU_mem 269 (by decide +kernel) rfl)⟩
theorem fl_X5_75 : FL RX5 75 5 14 .int false := ⟨RX5, TX5, 15, tyX5, rfl, by decide, inU_X5, tyX5_ok, nmX5, rfl, rfl, rfl, Or.inl (vU_mem 270 (by decide +kernel) rfl)⟩
theorem fl_X6_7 : FL RX6 7 6 0 (.array .int) true := ⟨RX6, TX6, 20, tyX6, rfl, by decide, inU_X6, tyX6_ok, nmX6, rfl, rfl, rfl, Or.inl (vU_mem 817 (by decide +kernel) rfl)⟩
theorem ff_X6_7 : ∀ C T N, vwCl[6]? = some (C, T, N) → Cond.fieldLink RX6 7 C (T 0).2.1 (T 0).2.2.1 ∈ vU := fun C T N h => by cases h; exact vU_mem 817 (by decide +kernel) rfl
theorem fl_X6_13 : FL RX6 13 6 1 (.array .int) true := ⟨RX6, TX6, 20, tyX6, rfl, by decide, inU_X6, tyX6_ok, nmX6, rfl, rfl, rfl, Or.inl (vU_mem 818 (by decide +kernel) rfl)⟩
theorem ff_X6_13 : ∀ C T N, vwCl[6]? = some (C, T, N) → Cond.fieldLink RX6 13 C (T 1).2.1 (T 1).2.2.1 ∈ vU := fun C T N h => by cases h; exact vU_mem 818 (by decide +kernel) rfl
theorem fl_X6_16 : FL RX6 16 6 2 (.array .boolean) true := ⟨RX6, TX6, 20, tyX6, rfl, by decide, inU_X6, tyX6_ok, nmX6, rfl, rfl, rfl, Or.inl (vU_mem 819 (by decide +kernel) rfl)⟩
theorem ff_X6_16 : ∀ C T N, vwCl[6]? = some (C, T, N) → Cond.fieldLink RX6 16 C (T 2).2.1 (T 2).2.2.1 ∈ vU := fun C T N h => by cases h; exact vU_mem 819 (by decide +kernel) rfl
theorem fl_X6_20 : FL RX6 20 6 3 (.array .int) true := ⟨RX6, TX6, 20, tyX6, rfl, by decide, inU_X6, tyX6_ok, nmX6, rfl, rfl, rfl, Or.inl (vU_mem 820 (by decide +kernel) rfl)⟩
theorem ff_X6_20 : ∀ C T N, vwCl[6]? = some (C, T, N) → Cond.fieldLink RX6 20 C (T 3).2.1 (T 3).2.2.1 ∈ vU := fun C T N h => by cases h; exact vU_mem 820 (by decide +kernel) rfl
theorem fl_X6_23 : FL RX6 23 6 4 (.array .int) true := ⟨RX6, TX6, 20, tyX6, rfl, by decide, inU_X6, tyX6_ok, nmX6, rfl, rfl, rfl, Or.inl (vU_mem 821 (by decide +kernel) rfl)⟩
theorem ff_X6_23 : ∀ C T N, vwCl[6]? = some (C, T, N) → Cond.fieldLink RX6 23 C (T 4).2.1 (T 4).2.2.1 ∈ vU := fun C T N h => by cases h; exact vU_mem 821 (by decide +kernel) rfl
theorem fl_X6_48 : FL RX6 48 6 5 .boolean false := ⟨RX6, TX6, 20, tyX6, rfl, by decide, inU_X6, tyX6_ok, nmX6, rfl, rfl, rfl, Or.inl (vU_mem 822 (by decide +kernel) rfl)⟩
theorem fl_X6_26 : FL RX6 26 6 6 (.array .int) true := ⟨RX6, TX6, 20, tyX6, rfl, by decide, inU_X6, tyX6_ok, nmX6, rfl, rfl, rfl, Or.inl (vU_mem 823 (by decide +kernel) rfl)⟩
theorem ff_X6_26 : ∀ C T N, vwCl[6]? = some (C, T, N) → Cond.fieldLink RX6 26 C (T 6).2.1 (T 6).2.2.1 ∈ vU := fun C T N h => by cases h; exact vU_mem 823 (by decide +kernel) rfl
theorem fl_X6_107 : FL RX6 107 6 7 .int false := ⟨RX6, TX6, 20, tyX6, rfl, by decide, inU_X6, tyX6_ok, nmX6, rfl, rfl, rfl, Or.inl (vU_mem 824 (by decide +kernel) rfl)⟩
theorem fl_X6_113 : FL RX6 113 6 8 .int false := ⟨RX6, TX6, 20, tyX6, rfl, by decide, inU_X6, tyX6_ok, nmX6, rfl, rfl, rfl, Or.inl (vU_mem 825 (by decide +kernel) rfl)⟩
theorem fl_X6_129 : FL RX6 129 6 9 .int false := ⟨RX6, TX6, 20, tyX6, rfl, by decide, inU_X6, tyX6_ok, nmX6, rfl, rfl, rfl, Or.inl (vU_mem 826 (by decide +kernel) rfl)⟩
theorem fl_X6_132 : FL RX6 132 6 10 .int false := ⟨RX6, TX6, 20, tyX6, rfl, by decide, inU_X6, tyX6_ok, nmX6, rfl, rfl, rfl, Or.inl (vU_mem 827 (by decide +kernel) rfl)⟩
theorem fl_X6_143 : FL RX6 143 6 11 .int false := ⟨RX6, TX6, 20, tyX6, rfl, by decide, inU_X6, tyX6_ok, nmX6, rfl, rfl, rfl, Or.inl (vU_mem 828 (by decide +kernel) rfl)⟩
theorem fl_X6_29 : FL RX6 29 6 12 (.array .int) true := ⟨RX6, TX6, 20, tyX6, rfl, by decide, inU_X6, tyX6_ok, nmX6, rfl, rfl, rfl, Or.inl (vU_mem 829 (by decide +kernel) rfl)⟩
theorem ff_X6_29 : ∀ C T N, vwCl[6]? = some (C, T, N) → Cond.fieldLink RX6 29 C (T 12).2.1 (T 12).2.2.1 ∈ vU := fun C T N h => by cases h; exact vU_mem 829 (by decide +kernel) rfl
theorem fl_X6_146 : FL RX6 146 6 13 .int false := ⟨RX6, TX6, 20, tyX6, rfl, by decide, inU_X6, tyX6_ok, nmX6, rfl, rfl, rfl, Or.inl (vU_mem 830 (by decide +kernel) rfl)⟩
theorem fl_X6_32 : FL RX6 32 6 14 (.array .int) true := ⟨RX6, TX6, 20, tyX6, rfl, by decide, inU_X6, tyX6_ok, nmX6, rfl, rfl, rfl, Or.inl (vU_mem 831 (by decide +kernel) rfl)⟩
theorem ff_X6_32 : ∀ C T N, vwCl[6]? = some (C, T, N) → Cond.fieldLink RX6 32 C (T 14).2.1 (T 14).2.2.1 ∈ vU := fun C T N h => by cases h; exact vU_mem 831 (by decide +kernel) rfl
theorem fl_X6_35 : FL RX6 35 6 15 (.array .int) true := ⟨RX6, TX6, 20, tyX6, rfl, by decide, inU_X6, tyX6_ok, nmX6, rfl, rfl, rfl, Or.inl (vU_mem 832 (by decide +kernel) rfl)⟩
theorem ff_X6_35 : ∀ C T N, vwCl[6]? = some (C, T, N) → Cond.fieldLink RX6 35 C (T 15).2.1 (T 15).2.2.1 ∈ vU := fun C T N h => by cases h; exact vU_mem 832 (by decide +kernel) rfl
theorem fl_X6_38 : FL RX6 38 6 16 (.array .boolean) true := ⟨RX6, TX6, 20, tyX6, rfl, by decide, inU_X6, tyX6_ok, nmX6, rfl, rfl, rfl, Or.inl (vU_mem 833 (by decide +kernel) rfl)⟩
theorem ff_X6_38 : ∀ C T N, vwCl[6]? = some (C, T, N) → Cond.fieldLink RX6 38 C (T 16).2.1 (T 16).2.2.1 ∈ vU := fun C T N h => by cases h; exact vU_mem 833 (by decide +kernel) rfl
theorem fl_X6_41 : FL RX6 41 6 17 (.array .int) true := ⟨RX6, TX6, 20, tyX6, rfl, by decide, inU_X6, tyX6_ok, nmX6, rfl, rfl, rfl, Or.inl (vU_mem 834 (by decide +kernel) rfl)⟩
theorem ff_X6_41 : ∀ C T N, vwCl[6]? = some (C, T, N) → Cond.fieldLink RX6 41 C (T 17).2.1 (T 17).2.2.1 ∈ vU := fun C T N h => by cases h; exact vU_mem 834 (by decide +kernel) rfl
theorem fl_X6_210 : FL RX6 210 6 18 .int false := ⟨RX6, TX6, 20, tyX6, rfl, by decide, inU_X6, tyX6_ok, nmX6, rfl, rfl, rfl, Or.inl (vU_mem 835 (by decide +kernel) rfl)⟩
theorem fl_X6_222 : FL RX6 222 6 19 .int false := ⟨RX6, TX6, 20, tyX6, rfl, by decide, inU_X6, tyX6_ok, nmX6, rfl, rfl, rfl, Or.inl (vU_mem 836 (by decide +kernel) rfl)⟩
abbrev mX5_init : vMeth := (yX5_init, cX5_init, 1, none)
theorem ok_X5_init : okM mX5_init 0 := ⟨vU_mem 66 (by decide +kernel) rfl, vU_mem 49 (by decide +kernel) rfl, by decide +kernel, by decide +kernel, by decide +kernel⟩
theorem oi_X5_init : Cond.instanceMethod mX5_init.1 ∈ vU := vU_mem 65 (by decide +kernel) rfl
abbrev mX4_init : vMeth := (yX4_init, cX4_init, 1, none)
theorem ok_X4_init : okM mX4_init 0 := ⟨vU_mem 74 (by decide +kernel) rfl, vU_mem 50 (by decide +kernel) rfl, by decide +kernel, by decide +kernel, by decide +kernel⟩
theorem oi_X4_init : Cond.instanceMethod mX4_init.1 ∈ vU := vU_mem 73 (by decide +kernel) rfl
abbrev mX2_init : vMeth := (yX2_init, cX2_init, 2, none)
theorem ok_X2_init : okM mX2_init 1 := ⟨vU_mem 80 (by decide +kernel) rfl, vU_mem 51 (by decide +kernel) rfl, by decide +kernel, by decide +kernel, by decide +kernel⟩
theorem oi_X2_init : Cond.instanceMethod mX2_init.1 ∈ vU := vU_mem 79 (by decide +kernel) rfl
abbrev mJ9_max_7cf53 : vMeth := (yJ9_max_7cf53, cJ9_max_7cf53, 2, (some .int))
theorem ok_J9_max_7cf53 : okM mJ9_max_7cf53 2 := ⟨vU_mem 84 (by decide +kernel) rfl, vU_mem 52 (by decide +kernel) rfl, by decide +kernel, by decide +kernel, by decide +kernel⟩
theorem os_J9_max_7cf53 : Cond.static mJ9_max_7cf53.1 ∈ vU := vU_mem 83 (by decide +kernel) rfl
abbrev mX4_tellDrawers : vMeth := (yX4_tellDrawers, cX4_tellDrawers, 4, (some .int))
theorem ok_X4_tellDrawers : okM mX4_tellDrawers 1 := ⟨vU_mem 96 (by decide +kernel) rfl, vU_mem 50 (by decide +kernel) rfl, by decide +kernel, by decide +kernel, by decide +kernel⟩
theorem ov_X4_tellDrawers : okV mX4_tellDrawers := ⟨vU_mem 94 (by decide +kernel) rfl, vU_mem 95 (by decide +kernel) rfl⟩
abbrev mX2_drop : vMeth := (yX2_drop, cX2_drop, 1, none)
theorem ok_X2_drop : okM mX2_drop 0 := ⟨vU_mem 100 (by decide +kernel) rfl, vU_mem 51 (by decide +kernel) rfl, by decide +kernel, by decide +kernel, by decide +kernel⟩
theorem ov_X2_drop : okV mX2_drop := ⟨vU_mem 98 (by decide +kernel) rfl, vU_mem 99 (by decide +kernel) rfl⟩
abbrev mX2_add : vMeth := (yX2_add, cX2_add, 2, none)
theorem ok_X2_add : okM mX2_add 1 := ⟨vU_mem 104 (by decide +kernel) rfl, vU_mem 51 (by decide +kernel) rfl, by decide +kernel, by decide +kernel, by decide +kernel⟩
theorem ov_X2_add : okV mX2_add := ⟨vU_mem 102 (by decide +kernel) rfl, vU_mem 103 (by decide +kernel) rfl⟩
abbrev mX1_init : vMeth := (yX1_init, cX1_init, 1, none)
theorem ok_X1_init : okM mX1_init 0 := ⟨vU_mem 169 (by decide +kernel) rfl, vU_mem 53 (by decide +kernel) rfl, by decide +kernel, by decide +kernel, by decide +kernel⟩
theorem oi_X1_init : Cond.instanceMethod mX1_init.1 ∈ vU := vU_mem 168 (by decide +kernel) rfl
abbrev mX3_init : vMeth := (yX3_init, cX3_init, 1, none)
theorem ok_X3_init : okM mX3_init 0 := ⟨vU_mem 193 (by decide +kernel) rfl, vU_mem 54 (by decide +kernel) rfl, by decide +kernel, by decide +kernel, by decide +kernel⟩
theorem oi_X3_init : Cond.instanceMethod mX3_init.1 ∈ vU := vU_mem 192 (by decide +kernel) rfl
abbrev mX2_fill : vMeth := (yX2_fill, cX2_fill, 4, none)
theorem ok_X2_fill : okM mX2_fill 2 := ⟨vU_mem 200 (by decide +kernel) rfl, vU_mem 51 (by decide +kernel) rfl, by decide +kernel, by decide +kernel, by decide +kernel⟩
theorem ov_X2_fill : okV mX2_fill := ⟨vU_mem 198 (by decide +kernel) rfl, vU_mem 199 (by decide +kernel) rfl⟩
abbrev mJ9_min_7cf53 : vMeth := (yJ9_min_7cf53, cJ9_min_7cf53, 2, (some .int))
theorem ok_J9_min_7cf53 : okM mJ9_min_7cf53 2 := ⟨vU_mem 203 (by decide +kernel) rfl, vU_mem 52 (by decide +kernel) rfl, by decide +kernel, by decide +kernel, by decide +kernel⟩
theorem os_J9_min_7cf53 : Cond.static mJ9_min_7cf53.1 ∈ vU := vU_mem 202 (by decide +kernel) rfl
abbrev mX0_init : vMeth := (yX0_init, cX0_init, 1, none)
theorem ok_X0_init : okM mX0_init 0 := ⟨vU_mem 245 (by decide +kernel) rfl, vU_mem 55 (by decide +kernel) rfl, by decide +kernel, by decide +kernel, by decide +kernel⟩
theorem oi_X0_init : Cond.instanceMethod mX0_init.1 ∈ vU := vU_mem 244 (by decide +kernel) rfl
abbrev mX5_wall : vMeth := (yX5_wall, cX5_wall, 2, (some .int))
theorem ok_X5_wall : okM mX5_wall 1 := ⟨vU_mem 305 (by decide +kernel) rfl, vU_mem 49 (by decide +kernel) rfl, by decide +kernel, by decide +kernel, by decide +kernel⟩
theorem ov_X5_wall : okV mX5_wall := ⟨vU_mem 303 (by decide +kernel) rfl, vU_mem 304 (by decide +kernel) rfl⟩
abbrev mX3_forget : vMeth := (yX3_forget, cX3_forget, 1, none)
theorem ok_X3_forget : okM mX3_forget 0 := ⟨vU_mem 309 (by decide +kernel) rfl, vU_mem 54 (by decide +kernel) rfl, by decide +kernel, by decide +kernel, by decide +kernel⟩
theorem ov_X3_forget : okV mX3_forget := ⟨vU_mem 307 (by decide +kernel) rfl, vU_mem 308 (by decide +kernel) rfl⟩
abbrev mX5_told : vMeth := (yX5_told, cX5_told, 2, (some .int))
theorem ok_X5_told : okM mX5_told 1 := ⟨vU_mem 314 (by decide +kernel) rfl, vU_mem 49 (by decide +kernel) rfl, by decide +kernel, by decide +kernel, by decide +kernel⟩
theorem ov_X5_told : okV mX5_told := ⟨vU_mem 313 (by decide +kernel) rfl, vU_mem 0 (by decide +kernel) rfl⟩
abbrev mX5_cord : vMeth := (yX5_cord, cX5_cord, 5, (some .int))
theorem ok_X5_cord : okM mX5_cord 4 := ⟨vU_mem 318 (by decide +kernel) rfl, vU_mem 49 (by decide +kernel) rfl, by decide +kernel, by decide +kernel, by decide +kernel⟩
theorem ov_X5_cord : okV mX5_cord := ⟨vU_mem 316 (by decide +kernel) rfl, vU_mem 317 (by decide +kernel) rfl⟩
abbrev mX4_tellCord : vMeth := (yX4_tellCord, cX4_tellCord, 5, (some .int))
theorem ok_X4_tellCord : okM mX4_tellCord 4 := ⟨vU_mem 322 (by decide +kernel) rfl, vU_mem 50 (by decide +kernel) rfl, by decide +kernel, by decide +kernel, by decide +kernel⟩
theorem ov_X4_tellCord : okV mX4_tellCord := ⟨vU_mem 320 (by decide +kernel) rfl, vU_mem 321 (by decide +kernel) rfl⟩
abbrev mX4_hasDrawer : vMeth := (yX4_hasDrawer, cX4_hasDrawer, 2, (some .boolean))
theorem ok_X4_hasDrawer : okM mX4_hasDrawer 1 := ⟨vU_mem 326 (by decide +kernel) rfl, vU_mem 50 (by decide +kernel) rfl, by decide +kernel, by decide +kernel, by decide +kernel⟩
theorem ov_X4_hasDrawer : okV mX4_hasDrawer := ⟨vU_mem 324 (by decide +kernel) rfl, vU_mem 325 (by decide +kernel) rfl⟩
abbrev mX2_isFull : vMeth := (yX2_isFull, cX2_isFull, 1, (some .boolean))
theorem ok_X2_isFull : okM mX2_isFull 0 := ⟨vU_mem 330 (by decide +kernel) rfl, vU_mem 51 (by decide +kernel) rfl, by decide +kernel, by decide +kernel, by decide +kernel⟩
theorem ov_X2_isFull : okV mX2_isFull := ⟨vU_mem 328 (by decide +kernel) rfl, vU_mem 329 (by decide +kernel) rfl⟩
abbrev mX2_size : vMeth := (yX2_size, cX2_size, 1, (some .int))
theorem ok_X2_size : okM mX2_size 0 := ⟨vU_mem 334 (by decide +kernel) rfl, vU_mem 51 (by decide +kernel) rfl, by decide +kernel, by decide +kernel, by decide +kernel⟩
theorem ov_X2_size : okV mX2_size := ⟨vU_mem 332 (by decide +kernel) rfl, vU_mem 333 (by decide +kernel) rfl⟩
abbrev mX5_caught : vMeth := (yX5_caught, cX5_caught, 3, (some .int))
theorem ok_X5_caught : okM mX5_caught 2 := ⟨vU_mem 338 (by decide +kernel) rfl, vU_mem 49 (by decide +kernel) rfl, by decide +kernel, by decide +kernel, by decide +kernel⟩
theorem ov_X5_caught : okV mX5_caught := ⟨vU_mem 336 (by decide +kernel) rfl, vU_mem 337 (by decide +kernel) rfl⟩
abbrev mX4_tellCatch : vMeth := (yX4_tellCatch, cX4_tellCatch, 3, (some .int))
theorem ok_X4_tellCatch : okM mX4_tellCatch 2 := ⟨vU_mem 342 (by decide +kernel) rfl, vU_mem 50 (by decide +kernel) rfl, by decide +kernel, by decide +kernel, by decide +kernel⟩
theorem ov_X4_tellCatch : okV mX4_tellCatch := ⟨vU_mem 340 (by decide +kernel) rfl, vU_mem 341 (by decide +kernel) rfl⟩
abbrev mX4_hasCatch : vMeth := (yX4_hasCatch, cX4_hasCatch, 2, (some .boolean))
theorem ok_X4_hasCatch : okM mX4_hasCatch 1 := ⟨vU_mem 346 (by decide +kernel) rfl, vU_mem 50 (by decide +kernel) rfl, by decide +kernel, by decide +kernel, by decide +kernel⟩
theorem ov_X4_hasCatch : okV mX4_hasCatch := ⟨vU_mem 344 (by decide +kernel) rfl, vU_mem 345 (by decide +kernel) rfl⟩
abbrev mX5_good : vMeth := (yX5_good, cX5_good, 3, (some .int))
theorem ok_X5_good : okM mX5_good 2 := ⟨vU_mem 350 (by decide +kernel) rfl, vU_mem 49 (by decide +kernel) rfl, by decide +kernel, by decide +kernel, by decide +kernel⟩
theorem ov_X5_good : okV mX5_good := ⟨vU_mem 348 (by decide +kernel) rfl, vU_mem 349 (by decide +kernel) rfl⟩
abbrev mX4_tellGoods : vMeth := (yX4_tellGoods, cX4_tellGoods, 4, (some .int))
theorem ok_X4_tellGoods : okM mX4_tellGoods 2 := ⟨vU_mem 354 (by decide +kernel) rfl, vU_mem 50 (by decide +kernel) rfl, by decide +kernel, by decide +kernel, by decide +kernel⟩
theorem ov_X4_tellGoods : okV mX4_tellGoods := ⟨vU_mem 352 (by decide +kernel) rfl, vU_mem 353 (by decide +kernel) rfl⟩
abbrev mX2_at : vMeth := (yX2_at, cX2_at, 2, (some .int))
theorem ok_X2_at : okM mX2_at 1 := ⟨vU_mem 358 (by decide +kernel) rfl, vU_mem 51 (by decide +kernel) rfl, by decide +kernel, by decide +kernel, by decide +kernel⟩
theorem ov_X2_at : okV mX2_at := ⟨vU_mem 356 (by decide +kernel) rfl, vU_mem 357 (by decide +kernel) rfl⟩
abbrev mX2_set : vMeth := (yX2_set, cX2_set, 3, none)
theorem ok_X2_set : okM mX2_set 2 := ⟨vU_mem 362 (by decide +kernel) rfl, vU_mem 51 (by decide +kernel) rfl, by decide +kernel, by decide +kernel, by decide +kernel⟩
theorem ov_X2_set : okV mX2_set := ⟨vU_mem 360 (by decide +kernel) rfl, vU_mem 361 (by decide +kernel) rfl⟩
abbrev mX5_put : vMeth := (yX5_put, cX5_put, 4, (some .int))
theorem ok_X5_put : okM mX5_put 2 := ⟨vU_mem 366 (by decide +kernel) rfl, vU_mem 49 (by decide +kernel) rfl, by decide +kernel, by decide +kernel, by decide +kernel⟩
theorem ov_X5_put : okV mX5_put := ⟨vU_mem 364 (by decide +kernel) rfl, vU_mem 365 (by decide +kernel) rfl⟩
abbrev mX5_order : vMeth := (yX5_order, cX5_order, 2, (some .int))
theorem ok_X5_order : okM mX5_order 1 := ⟨vU_mem 370 (by decide +kernel) rfl, vU_mem 49 (by decide +kernel) rfl, by decide +kernel, by decide +kernel, by decide +kernel⟩
theorem ov_X5_order : okV mX5_order := ⟨vU_mem 368 (by decide +kernel) rfl, vU_mem 369 (by decide +kernel) rfl⟩
abbrev mX4_tellOrder : vMeth := (yX4_tellOrder, cX4_tellOrder, 2, (some .int))
theorem ok_X4_tellOrder : okM mX4_tellOrder 1 := ⟨vU_mem 374 (by decide +kernel) rfl, vU_mem 50 (by decide +kernel) rfl, by decide +kernel, by decide +kernel, by decide +kernel⟩
theorem ov_X4_tellOrder : okV mX4_tellOrder := ⟨vU_mem 372 (by decide +kernel) rfl, vU_mem 373 (by decide +kernel) rfl⟩
abbrev mX5_type : vMeth := (yX5_type, cX5_type, 5, (some .int))
theorem ok_X5_type : okM mX5_type 2 := ⟨vU_mem 378 (by decide +kernel) rfl, vU_mem 49 (by decide +kernel) rfl, by decide +kernel, by decide +kernel, by decide +kernel⟩
theorem ov_X5_type : okV mX5_type := ⟨vU_mem 376 (by decide +kernel) rfl, vU_mem 377 (by decide +kernel) rfl⟩
abbrev mX5_clear : vMeth := (yX5_clear, cX5_clear, 2, (some .int))
theorem ok_X5_clear : okM mX5_clear 0 := ⟨vU_mem 384 (by decide +kernel) rfl, vU_mem 49 (by decide +kernel) rfl, by decide +kernel, by decide +kernel, by decide +kernel⟩
theorem ov_X5_clear : okV mX5_clear := ⟨vU_mem 382 (by decide +kernel) rfl, vU_mem 383 (by decide +kernel) rfl⟩
abbrev mX5_read : vMeth := (yX5_read, cX5_read, 3, (some .int))
theorem ok_X5_read : okM mX5_read 0 := ⟨vU_mem 389 (by decide +kernel) rfl, vU_mem 49 (by decide +kernel) rfl, by decide +kernel, by decide +kernel, by decide +kernel⟩
theorem ov_X5_read : okV mX5_read := ⟨vU_mem 387 (by decide +kernel) rfl, vU_mem 388 (by decide +kernel) rfl⟩
abbrev mX1_faultIn : vMeth := (yX1_faultIn, cX1_faultIn, 4, (some .int))
theorem ok_X1_faultIn : okM mX1_faultIn 1 := ⟨vU_mem 393 (by decide +kernel) rfl, vU_mem 53 (by decide +kernel) rfl, by decide +kernel, by decide +kernel, by decide +kernel⟩
theorem ov_X1_faultIn : okV mX1_faultIn := ⟨vU_mem 391 (by decide +kernel) rfl, vU_mem 392 (by decide +kernel) rfl⟩
abbrev mX2_copyFrom : vMeth := (yX2_copyFrom, cX2_copyFrom, 3, none)
theorem ok_X2_copyFrom : okM mX2_copyFrom 1 := ⟨vU_mem 397 (by decide +kernel) rfl, vU_mem 51 (by decide +kernel) rfl, by decide +kernel, by decide +kernel, by decide +kernel⟩
theorem ov_X2_copyFrom : okV mX2_copyFrom := ⟨vU_mem 395 (by decide +kernel) rfl, vU_mem 396 (by decide +kernel) rfl⟩
abbrev mX1_scan : vMeth := (yX1_scan, cX1_scan, 2, none)
theorem ok_X1_scan : okM mX1_scan 0 := ⟨vU_mem 405 (by decide +kernel) rfl, vU_mem 53 (by decide +kernel) rfl, by decide +kernel, by decide +kernel, by decide +kernel⟩
theorem ov_X1_scan : okV mX1_scan := ⟨vU_mem 404 (by decide +kernel) rfl, vU_mem 1 (by decide +kernel) rfl⟩
abbrev mX2_holds : vMeth := (yX2_holds, cX2_holds, 2, (some .boolean))
theorem ok_X2_holds : okM mX2_holds 1 := ⟨vU_mem 410 (by decide +kernel) rfl, vU_mem 51 (by decide +kernel) rfl, by decide +kernel, by decide +kernel, by decide +kernel⟩
theorem ov_X2_holds : okV mX2_holds := ⟨vU_mem 408 (by decide +kernel) rfl, vU_mem 409 (by decide +kernel) rfl⟩
abbrev mX1_isLetter : vMeth := (yX1_isLetter, cX1_isLetter, 1, (some .boolean))
theorem ok_X1_isLetter : okM mX1_isLetter 1 := ⟨vU_mem 413 (by decide +kernel) rfl, vU_mem 53 (by decide +kernel) rfl, by decide +kernel, by decide +kernel, by decide +kernel⟩
theorem os_X1_isLetter : Cond.static mX1_isLetter.1 ∈ vU := vU_mem 412 (by decide +kernel) rfl
abbrev mX1_wordHere : vMeth := (yX1_wordHere, cX1_wordHere, 2, (some .int))
theorem ok_X1_wordHere : okM mX1_wordHere 0 := ⟨vU_mem 417 (by decide +kernel) rfl, vU_mem 53 (by decide +kernel) rfl, by decide +kernel, by decide +kernel, by decide +kernel⟩
theorem ov_X1_wordHere : okV mX1_wordHere := ⟨vU_mem 416 (by decide +kernel) rfl, vU_mem 2 (by decide +kernel) rfl⟩
abbrev mX1_isHere : vMeth := (yX1_isHere, cX1_isHere, 3, (some .boolean))
theorem ok_X1_isHere : okM mX1_isHere 1 := ⟨vU_mem 422 (by decide +kernel) rfl, vU_mem 53 (by decide +kernel) rfl, by decide +kernel, by decide +kernel, by decide +kernel⟩
theorem ov_X1_isHere : okV mX1_isHere := ⟨vU_mem 421 (by decide +kernel) rfl, vU_mem 3 (by decide +kernel) rfl⟩
abbrev mJ0_length_8abf5 : vMeth := (yJ0_length_8abf5, cJ0_length_8abf5, 1, (some .int))
theorem ok_J0_length_8abf5 : okM mJ0_length_8abf5 0 := ⟨vU_mem 426 (by decide +kernel) rfl, vU_mem 57 (by decide +kernel) rfl, by decide +kernel, by decide +kernel, by decide +kernel⟩
theorem ov_J0_length_8abf5 : okV mJ0_length_8abf5 := ⟨vU_mem 424 (by decide +kernel) rfl, vU_mem 425 (by decide +kernel) rfl⟩
abbrev mJ0_coder_7d493 : vMeth := (yJ0_coder_7d493, cJ0_coder_7d493, 1, (some .byte))
theorem ok_J0_coder_7d493 : okM mJ0_coder_7d493 0 := ⟨vU_mem 430 (by decide +kernel) rfl, vU_mem 57 (by decide +kernel) rfl, by decide +kernel, by decide +kernel, by decide +kernel⟩
theorem ov_J0_coder_7d493 : okV mJ0_coder_7d493 := ⟨vU_mem 428 (by decide +kernel) rfl, vU_mem 429 (by decide +kernel) rfl⟩
abbrev mJ0_charAt_5068e : vMeth := (yJ0_charAt_5068e, cJ0_charAt_5068e, 2, (some .char))
theorem ok_J0_charAt_5068e : okM mJ0_charAt_5068e 1 := ⟨vU_mem 436 (by decide +kernel) rfl, vU_mem 57 (by decide +kernel) rfl, by decide +kernel, by decide +kernel, by decide +kernel⟩
theorem ov_J0_charAt_5068e : okV mJ0_charAt_5068e := ⟨vU_mem 434 (by decide +kernel) rfl, vU_mem 435 (by decide +kernel) rfl⟩
abbrev mJ0_isLatin1_aae02 : vMeth := (yJ0_isLatin1_aae02, cJ0_isLatin1_aae02, 1, (some .boolean))
theorem ok_J0_isLatin1_aae02 : okM mJ0_isLatin1_aae02 0 := ⟨vU_mem 440 (by decide +kernel) rfl, vU_mem 57 (by decide +kernel) rfl, by decide +kernel, by decide +kernel, by decide +kernel⟩
theorem ov_J0_isLatin1_aae02 : okV mJ0_isLatin1_aae02 := ⟨vU_mem 438 (by decide +kernel) rfl, vU_mem 439 (by decide +kernel) rfl⟩
abbrev mJ1_charAt_3b067 : vMeth := (yJ1_charAt_3b067, cJ1_charAt_3b067, 2, (some .char))
theorem ok_J1_charAt_3b067 : okM mJ1_charAt_3b067 2 := ⟨vU_mem 443 (by decide +kernel) rfl, vU_mem 58 (by decide +kernel) rfl, by decide +kernel, by decide +kernel, by decide +kernel⟩
theorem os_J1_charAt_3b067 : Cond.static mJ1_charAt_3b067.1 ∈ vU := vU_mem 442 (by decide +kernel) rfl
abbrev mJ0_checkIndex_df160 : vMeth := (yJ0_checkIndex_df160, cJ0_checkIndex_df160, 2, none)
theorem ok_J0_checkIndex_df160 : okM mJ0_checkIndex_df160 2 := ⟨vU_mem 446 (by decide +kernel) rfl, vU_mem 57 (by decide +kernel) rfl, by decide +kernel, by decide +kernel, by decide +kernel⟩
theorem os_J0_checkIndex_df160 : Cond.static mJ0_checkIndex_df160.1 ∈ vU := vU_mem 445 (by decide +kernel) rfl
abbrev mJ3_checkIndex_8e157 : vMeth := (yJ3_checkIndex_8e157, cJ3_checkIndex_8e157, 3, (some .int))
theorem ok_J3_checkIndex_8e157 : okM mJ3_checkIndex_8e157 3 := ⟨vU_mem 451 (by decide +kernel) rfl, vU_mem 59 (by decide +kernel) rfl, by decide +kernel, by decide +kernel, by decide +kernel⟩
theorem os_J3_checkIndex_8e157 : Cond.static mJ3_checkIndex_8e157.1 ∈ vU := vU_mem 450 (by decide +kernel) rfl
abbrev mJ2_charAt_3b067 : vMeth := (yJ2_charAt_3b067, cJ2_charAt_3b067, 2, (some .char))
theorem ok_J2_charAt_3b067 : okM mJ2_charAt_3b067 2 := ⟨vU_mem 454 (by decide +kernel) rfl, vU_mem 60 (by decide +kernel) rfl, by decide +kernel, by decide +kernel, by decide +kernel⟩
theorem os_J2_charAt_3b067 : Cond.static mJ2_charAt_3b067.1 ∈ vU := vU_mem 453 (by decide +kernel) rfl
abbrev mJ2_checkIndex_2214a : vMeth := (yJ2_checkIndex_2214a, cJ2_checkIndex_2214a, 2, none)
theorem ok_J2_checkIndex_2214a : okM mJ2_checkIndex_2214a 2 := ⟨vU_mem 457 (by decide +kernel) rfl, vU_mem 60 (by decide +kernel) rfl, by decide +kernel, by decide +kernel, by decide +kernel⟩
theorem os_J2_checkIndex_2214a : Cond.static mJ2_checkIndex_2214a.1 ∈ vU := vU_mem 456 (by decide +kernel) rfl
abbrev mJ2_length_9d52b : vMeth := (yJ2_length_9d52b, cJ2_length_9d52b, 1, (some .int))
theorem ok_J2_length_9d52b : okM mJ2_length_9d52b 1 := ⟨vU_mem 460 (by decide +kernel) rfl, vU_mem 60 (by decide +kernel) rfl, by decide +kernel, by decide +kernel, by decide +kernel⟩
theorem os_J2_length_9d52b : Cond.static mJ2_length_9d52b.1 ∈ vU := vU_mem 459 (by decide +kernel) rfl
abbrev mJ2_getChar_3b067 : vMeth := (yJ2_getChar_3b067, cJ2_getChar_3b067, 2, (some .char))
theorem ok_J2_getChar_3b067 : okM mJ2_getChar_3b067 2 := ⟨vU_mem 464 (by decide +kernel) rfl, vU_mem 60 (by decide +kernel) rfl, by decide +kernel, by decide +kernel, by decide +kernel⟩
theorem os_J2_getChar_3b067 : Cond.static mJ2_getChar_3b067.1 ∈ vU := vU_mem 463 (by decide +kernel) rfl
abbrev mX1_isFigure : vMeth := (yX1_isFigure, cX1_isFigure, 1, (some .boolean))
theorem ok_X1_isFigure : okM mX1_isFigure 1 := ⟨vU_mem 477 (by decide +kernel) rfl, vU_mem 53 (by decide +kernel) rfl, by decide +kernel, by decide +kernel, by decide +kernel⟩
theorem os_X1_isFigure : Cond.static mX1_isFigure.1 ∈ vU := vU_mem 476 (by decide +kernel) rfl
abbrev mX1_numberHere : vMeth := (yX1_numberHere, cX1_numberHere, 2, (some .int))
theorem ok_X1_numberHere : okM mX1_numberHere 0 := ⟨vU_mem 481 (by decide +kernel) rfl, vU_mem 53 (by decide +kernel) rfl, by decide +kernel, by decide +kernel, by decide +kernel⟩
theorem ov_X1_numberHere : okV mX1_numberHere := ⟨vU_mem 480 (by decide +kernel) rfl, vU_mem 4 (by decide +kernel) rfl⟩
abbrev mX1_items : vMeth := (yX1_items, cX1_items, 1, (some .int))
theorem ok_X1_items : okM mX1_items 0 := ⟨vU_mem 485 (by decide +kernel) rfl, vU_mem 53 (by decide +kernel) rfl, by decide +kernel, by decide +kernel, by decide +kernel⟩
theorem ov_X1_items : okV mX1_items := ⟨vU_mem 483 (by decide +kernel) rfl, vU_mem 484 (by decide +kernel) rfl⟩
abbrev mX1_takeItem : vMeth := (yX1_takeItem, cX1_takeItem, 6, (some .boolean))
theorem ok_X1_takeItem : okM mX1_takeItem 1 := ⟨vU_mem 489 (by decide +kernel) rfl, vU_mem 53 (by decide +kernel) rfl, by decide +kernel, by decide +kernel, by decide +kernel⟩
theorem ov_X1_takeItem : okV mX1_takeItem := ⟨vU_mem 488 (by decide +kernel) rfl, vU_mem 5 (by decide +kernel) rfl⟩
abbrev mX1_numbersOf : vMeth := (yX1_numbersOf, cX1_numbersOf, 1, (some .int))
theorem ok_X1_numbersOf : okM mX1_numbersOf 1 := ⟨vU_mem 492 (by decide +kernel) rfl, vU_mem 53 (by decide +kernel) rfl, by decide +kernel, by decide +kernel, by decide +kernel⟩
theorem os_X1_numbersOf : Cond.static mX1_numbersOf.1 ∈ vU := vU_mem 491 (by decide +kernel) rfl
abbrev mX1_refusedBy : vMeth := (yX1_refusedBy, cX1_refusedBy, 4, (some .int))
theorem ok_X1_refusedBy : okM mX1_refusedBy 1 := ⟨vU_mem 497 (by decide +kernel) rfl, vU_mem 53 (by decide +kernel) rfl, by decide +kernel, by decide +kernel, by decide +kernel⟩
theorem ov_X1_refusedBy : okV mX1_refusedBy := ⟨vU_mem 495 (by decide +kernel) rfl, vU_mem 496 (by decide +kernel) rfl⟩
abbrev mX1_tell : vMeth := (yX1_tell, cX1_tell, 5, (some .int))
theorem ok_X1_tell : okM mX1_tell 2 := ⟨vU_mem 501 (by decide +kernel) rfl, vU_mem 53 (by decide +kernel) rfl, by decide +kernel, by decide +kernel, by decide +kernel⟩
theorem ov_X1_tell : okV mX1_tell := ⟨vU_mem 500 (by decide +kernel) rfl, vU_mem 6 (by decide +kernel) rfl⟩
abbrev mX4_copyFrom : vMeth := (yX4_copyFrom, cX4_copyFrom, 2, none)
theorem ok_X4_copyFrom : okM mX4_copyFrom 1 := ⟨vU_mem 510 (by decide +kernel) rfl, vU_mem 50 (by decide +kernel) rfl, by decide +kernel, by decide +kernel, by decide +kernel⟩
theorem ov_X4_copyFrom : okV mX4_copyFrom := ⟨vU_mem 508 (by decide +kernel) rfl, vU_mem 509 (by decide +kernel) rfl⟩
abbrev mX5_pull : vMeth := (yX5_pull, cX5_pull, 2, (some .int))
theorem ok_X5_pull : okM mX5_pull 1 := ⟨vU_mem 517 (by decide +kernel) rfl, vU_mem 49 (by decide +kernel) rfl, by decide +kernel, by decide +kernel, by decide +kernel⟩
theorem ov_X5_pull : okV mX5_pull := ⟨vU_mem 515 (by decide +kernel) rfl, vU_mem 516 (by decide +kernel) rfl⟩
abbrev mX4_remember : vMeth := (yX4_remember, cX4_remember, 1, none)
theorem ok_X4_remember : okM mX4_remember 0 := ⟨vU_mem 522 (by decide +kernel) rfl, vU_mem 50 (by decide +kernel) rfl, by decide +kernel, by decide +kernel, by decide +kernel⟩
theorem ov_X4_remember : okV mX4_remember := ⟨vU_mem 520 (by decide +kernel) rfl, vU_mem 521 (by decide +kernel) rfl⟩
abbrev mX2_dropFirst : vMeth := (yX2_dropFirst, cX2_dropFirst, 2, none)
theorem ok_X2_dropFirst : okM mX2_dropFirst 0 := ⟨vU_mem 526 (by decide +kernel) rfl, vU_mem 51 (by decide +kernel) rfl, by decide +kernel, by decide +kernel, by decide +kernel⟩
theorem ov_X2_dropFirst : okV mX2_dropFirst := ⟨vU_mem 524 (by decide +kernel) rfl, vU_mem 525 (by decide +kernel) rfl⟩
abbrev mX4_after : vMeth := (yX4_after, cX4_after, 8, (some .int))
theorem ok_X4_after : okM mX4_after 3 := ⟨vU_mem 531 (by decide +kernel) rfl, vU_mem 50 (by decide +kernel) rfl, by decide +kernel, by decide +kernel, by decide +kernel⟩
theorem ov_X4_after : okV mX4_after := ⟨vU_mem 529 (by decide +kernel) rfl, vU_mem 530 (by decide +kernel) rfl⟩
abbrev mX5_isOpenBeside : vMeth := (yX5_isOpenBeside, cX5_isOpenBeside, 2, (some .boolean))
theorem ok_X5_isOpenBeside : okM mX5_isOpenBeside 2 := ⟨vU_mem 534 (by decide +kernel) rfl, vU_mem 49 (by decide +kernel) rfl, by decide +kernel, by decide +kernel, by decide +kernel⟩
theorem os_X5_isOpenBeside : Cond.static mX5_isOpenBeside.1 ∈ vU := vU_mem 533 (by decide +kernel) rfl
abbrev mX5_beside : vMeth := (yX5_beside, cX5_beside, 1, (some .int))
theorem ok_X5_beside : okM mX5_beside 1 := ⟨vU_mem 537 (by decide +kernel) rfl, vU_mem 49 (by decide +kernel) rfl, by decide +kernel, by decide +kernel, by decide +kernel⟩
theorem os_X5_beside : Cond.static mX5_beside.1 ∈ vU := vU_mem 536 (by decide +kernel) rfl
abbrev mX5_drawersOut : vMeth := (yX5_drawersOut, cX5_drawersOut, 5, (some .int))
theorem ok_X5_drawersOut : okM mX5_drawersOut 2 := ⟨vU_mem 540 (by decide +kernel) rfl, vU_mem 49 (by decide +kernel) rfl, by decide +kernel, by decide +kernel, by decide +kernel⟩
theorem os_X5_drawersOut : Cond.static mX5_drawersOut.1 ∈ vU := vU_mem 539 (by decide +kernel) rfl
abbrev mX5_outIn : vMeth := (yX5_outIn, cX5_outIn, 4, (some .int))
theorem ok_X5_outIn : okM mX5_outIn 2 := ⟨vU_mem 543 (by decide +kernel) rfl, vU_mem 49 (by decide +kernel) rfl, by decide +kernel, by decide +kernel, by decide +kernel⟩
theorem os_X5_outIn : Cond.static mX5_outIn.1 ∈ vU := vU_mem 542 (by decide +kernel) rfl
abbrev mX5_moved : vMeth := (yX5_moved, cX5_moved, 5, (some .int))
theorem ok_X5_moved : okM mX5_moved 3 := ⟨vU_mem 546 (by decide +kernel) rfl, vU_mem 49 (by decide +kernel) rfl, by decide +kernel, by decide +kernel, by decide +kernel⟩
theorem os_X5_moved : Cond.static mX5_moved.1 ∈ vU := vU_mem 545 (by decide +kernel) rfl
abbrev mX5_power : vMeth := (yX5_power, cX5_power, 3, (some .int))
theorem ok_X5_power : okM mX5_power 1 := ⟨vU_mem 552 (by decide +kernel) rfl, vU_mem 49 (by decide +kernel) rfl, by decide +kernel, by decide +kernel, by decide +kernel⟩
theorem os_X5_power : Cond.static mX5_power.1 ∈ vU := vU_mem 551 (by decide +kernel) rfl
abbrev mX4_amount : vMeth := (yX4_amount, cX4_amount, 8, (some .int))
theorem ok_X4_amount : okM mX4_amount 3 := ⟨vU_mem 556 (by decide +kernel) rfl, vU_mem 50 (by decide +kernel) rfl, by decide +kernel, by decide +kernel, by decide +kernel⟩
theorem ov_X4_amount : okV mX4_amount := ⟨vU_mem 555 (by decide +kernel) rfl, vU_mem 7 (by decide +kernel) rfl⟩
abbrev mX5_undo : vMeth := (yX5_undo, cX5_undo, 1, (some .int))
theorem ok_X5_undo : okM mX5_undo 0 := ⟨vU_mem 562 (by decide +kernel) rfl, vU_mem 49 (by decide +kernel) rfl, by decide +kernel, by decide +kernel, by decide +kernel⟩
theorem ov_X5_undo : okV mX5_undo := ⟨vU_mem 560 (by decide +kernel) rfl, vU_mem 561 (by decide +kernel) rfl⟩
abbrev mX2_takeLast : vMeth := (yX2_takeLast, cX2_takeLast, 2, (some .int))
theorem ok_X2_takeLast : okM mX2_takeLast 0 := ⟨vU_mem 566 (by decide +kernel) rfl, vU_mem 51 (by decide +kernel) rfl, by decide +kernel, by decide +kernel, by decide +kernel⟩
theorem ov_X2_takeLast : okV mX2_takeLast := ⟨vU_mem 564 (by decide +kernel) rfl, vU_mem 565 (by decide +kernel) rfl⟩
abbrev mX5_behind : vMeth := (yX5_behind, cX5_behind, 3, (some .int))
theorem ok_X5_behind : okM mX5_behind 2 := ⟨vU_mem 570 (by decide +kernel) rfl, vU_mem 49 (by decide +kernel) rfl, by decide +kernel, by decide +kernel, by decide +kernel⟩
theorem ov_X5_behind : okV mX5_behind := ⟨vU_mem 568 (by decide +kernel) rfl, vU_mem 569 (by decide +kernel) rfl⟩
abbrev mX4_hasState : vMeth := (yX4_hasState, cX4_hasState, 2, (some .boolean))
theorem ok_X4_hasState : okM mX4_hasState 1 := ⟨vU_mem 574 (by decide +kernel) rfl, vU_mem 50 (by decide +kernel) rfl, by decide +kernel, by decide +kernel, by decide +kernel⟩
theorem ov_X4_hasState : okV mX4_hasState := ⟨vU_mem 572 (by decide +kernel) rfl, vU_mem 573 (by decide +kernel) rfl⟩
abbrev mX5_out : vMeth := (yX5_out, cX5_out, 2, (some .int))
theorem ok_X5_out : okM mX5_out 1 := ⟨vU_mem 579 (by decide +kernel) rfl, vU_mem 49 (by decide +kernel) rfl, by decide +kernel, by decide +kernel, by decide +kernel⟩
theorem ov_X5_out : okV mX5_out := ⟨vU_mem 577 (by decide +kernel) rfl, vU_mem 578 (by decide +kernel) rfl⟩
abbrev mX5_pulls : vMeth := (yX5_pulls, cX5_pulls, 4, (some .int))
theorem ok_X5_pulls : okM mX5_pulls 3 := ⟨vU_mem 583 (by decide +kernel) rfl, vU_mem 49 (by decide +kernel) rfl, by decide +kernel, by decide +kernel, by decide +kernel⟩
theorem ov_X5_pulls : okV mX5_pulls := ⟨vU_mem 581 (by decide +kernel) rfl, vU_mem 582 (by decide +kernel) rfl⟩
abbrev mX3_learn : vMeth := (yX3_learn, cX3_learn, 3, none)
theorem ok_X3_learn : okM mX3_learn 1 := ⟨vU_mem 587 (by decide +kernel) rfl, vU_mem 54 (by decide +kernel) rfl, by decide +kernel, by decide +kernel, by decide +kernel⟩
theorem ov_X3_learn : okV mX3_learn := ⟨vU_mem 585 (by decide +kernel) rfl, vU_mem 586 (by decide +kernel) rfl⟩
abbrev mX3_learnDrawer : vMeth := (yX3_learnDrawer, cX3_learnDrawer, 5, none)
theorem ok_X3_learnDrawer : okM mX3_learnDrawer 3 := ⟨vU_mem 592 (by decide +kernel) rfl, vU_mem 54 (by decide +kernel) rfl, by decide +kernel, by decide +kernel, by decide +kernel⟩
theorem ov_X3_learnDrawer : okV mX3_learnDrawer := ⟨vU_mem 590 (by decide +kernel) rfl, vU_mem 591 (by decide +kernel) rfl⟩
abbrev mX5_pullOf : vMeth := (yX5_pullOf, cX5_pullOf, 7, (some .int))
theorem ok_X5_pullOf : okM mX5_pullOf 4 := ⟨vU_mem 598 (by decide +kernel) rfl, vU_mem 49 (by decide +kernel) rfl, by decide +kernel, by decide +kernel, by decide +kernel⟩
theorem ov_X5_pullOf : okV mX5_pullOf := ⟨vU_mem 597 (by decide +kernel) rfl, vU_mem 8 (by decide +kernel) rfl⟩
abbrev mX4_hasSet : vMeth := (yX4_hasSet, cX4_hasSet, 2, (some .boolean))
theorem ok_X4_hasSet : okM mX4_hasSet 1 := ⟨vU_mem 602 (by decide +kernel) rfl, vU_mem 50 (by decide +kernel) rfl, by decide +kernel, by decide +kernel, by decide +kernel⟩
theorem ov_X4_hasSet : okV mX4_hasSet := ⟨vU_mem 600 (by decide +kernel) rfl, vU_mem 601 (by decide +kernel) rfl⟩
abbrev mX3_begin : vMeth := (yX3_begin, cX3_begin, 1, none)
theorem ok_X3_begin : okM mX3_begin 0 := ⟨vU_mem 606 (by decide +kernel) rfl, vU_mem 54 (by decide +kernel) rfl, by decide +kernel, by decide +kernel, by decide +kernel⟩
theorem ov_X3_begin : okV mX3_begin := ⟨vU_mem 604 (by decide +kernel) rfl, vU_mem 605 (by decide +kernel) rfl⟩
abbrev mX3_barDangers : vMeth := (yX3_barDangers, cX3_barDangers, 3, none)
theorem ok_X3_barDangers : okM mX3_barDangers 1 := ⟨vU_mem 611 (by decide +kernel) rfl, vU_mem 54 (by decide +kernel) rfl, by decide +kernel, by decide +kernel, by decide +kernel⟩
theorem ov_X3_barDangers : okV mX3_barDangers := ⟨vU_mem 609 (by decide +kernel) rfl, vU_mem 610 (by decide +kernel) rfl⟩
abbrev mX4_isDanger : vMeth := (yX4_isDanger, cX4_isDanger, 4, (some .boolean))
theorem ok_X4_isDanger : okM mX4_isDanger 1 := ⟨vU_mem 615 (by decide +kernel) rfl, vU_mem 50 (by decide +kernel) rfl, by decide +kernel, by decide +kernel, by decide +kernel⟩
theorem ov_X4_isDanger : okV mX4_isDanger := ⟨vU_mem 613 (by decide +kernel) rfl, vU_mem 614 (by decide +kernel) rfl⟩
abbrev mX4_drawersWith : vMeth := (yX4_drawersWith, cX4_drawersWith, 4, (some .int))
theorem ok_X4_drawersWith : okM mX4_drawersWith 1 := ⟨vU_mem 619 (by decide +kernel) rfl, vU_mem 50 (by decide +kernel) rfl, by decide +kernel, by decide +kernel, by decide +kernel⟩
theorem ov_X4_drawersWith : okV mX4_drawersWith := ⟨vU_mem 617 (by decide +kernel) rfl, vU_mem 618 (by decide +kernel) rfl⟩
abbrev mX3_firstWith : vMeth := (yX3_firstWith, cX3_firstWith, 7, (some .int))
theorem ok_X3_firstWith : okM mX3_firstWith 3 := ⟨vU_mem 625 (by decide +kernel) rfl, vU_mem 54 (by decide +kernel) rfl, by decide +kernel, by decide +kernel, by decide +kernel⟩
theorem ov_X3_firstWith : okV mX3_firstWith := ⟨vU_mem 623 (by decide +kernel) rfl, vU_mem 624 (by decide +kernel) rfl⟩
abbrev mX3_meet : vMeth := (yX3_meet, cX3_meet, 4, none)
theorem ok_X3_meet : okM mX3_meet 3 := ⟨vU_mem 629 (by decide +kernel) rfl, vU_mem 54 (by decide +kernel) rfl, by decide +kernel, by decide +kernel, by decide +kernel⟩
theorem ov_X3_meet : okV mX3_meet := ⟨vU_mem 628 (by decide +kernel) rfl, vU_mem 9 (by decide +kernel) rfl⟩
abbrev mX3_grow : vMeth := (yX3_grow, cX3_grow, 3, none)
theorem ok_X3_grow : okM mX3_grow 1 := ⟨vU_mem 637 (by decide +kernel) rfl, vU_mem 54 (by decide +kernel) rfl, by decide +kernel, by decide +kernel, by decide +kernel⟩
theorem ov_X3_grow : okV mX3_grow := ⟨vU_mem 636 (by decide +kernel) rfl, vU_mem 10 (by decide +kernel) rfl⟩
abbrev mX3_step : vMeth := (yX3_step, cX3_step, 4, (some .int))
theorem ok_X3_step : okM mX3_step 2 := ⟨vU_mem 641 (by decide +kernel) rfl, vU_mem 54 (by decide +kernel) rfl, by decide +kernel, by decide +kernel, by decide +kernel⟩
theorem ov_X3_step : okV mX3_step := ⟨vU_mem 640 (by decide +kernel) rfl, vU_mem 11 (by decide +kernel) rfl⟩
abbrev mX3_pulledAt : vMeth := (yX3_pulledAt, cX3_pulledAt, 5, (some .int))
theorem ok_X3_pulledAt : okM mX3_pulledAt 2 := ⟨vU_mem 647 (by decide +kernel) rfl, vU_mem 54 (by decide +kernel) rfl, by decide +kernel, by decide +kernel, by decide +kernel⟩
theorem ov_X3_pulledAt : okV mX3_pulledAt := ⟨vU_mem 645 (by decide +kernel) rfl, vU_mem 646 (by decide +kernel) rfl⟩
abbrev mX5_safe : vMeth := (yX5_safe, cX5_safe, 4, (some .int))
theorem ok_X5_safe : okM mX5_safe 3 := ⟨vU_mem 651 (by decide +kernel) rfl, vU_mem 49 (by decide +kernel) rfl, by decide +kernel, by decide +kernel, by decide +kernel⟩
theorem ov_X5_safe : okV mX5_safe := ⟨vU_mem 649 (by decide +kernel) rfl, vU_mem 650 (by decide +kernel) rfl⟩
abbrev mX5_reach : vMeth := (yX5_reach, cX5_reach, 3, (some .int))
theorem ok_X5_reach : okM mX5_reach 1 := ⟨vU_mem 655 (by decide +kernel) rfl, vU_mem 49 (by decide +kernel) rfl, by decide +kernel, by decide +kernel, by decide +kernel⟩
theorem ov_X5_reach : okV mX5_reach := ⟨vU_mem 653 (by decide +kernel) rfl, vU_mem 654 (by decide +kernel) rfl⟩
abbrev mX5_reached : vMeth := (yX5_reached, cX5_reached, 1, (some .int))
theorem ok_X5_reached : okM mX5_reached 0 := ⟨vU_mem 659 (by decide +kernel) rfl, vU_mem 49 (by decide +kernel) rfl, by decide +kernel, by decide +kernel, by decide +kernel⟩
theorem ov_X5_reached : okV mX5_reached := ⟨vU_mem 658 (by decide +kernel) rfl, vU_mem 12 (by decide +kernel) rfl⟩
abbrev mX3_spread : vMeth := (yX3_spread, cX3_spread, 3, none)
theorem ok_X3_spread : okM mX3_spread 1 := ⟨vU_mem 663 (by decide +kernel) rfl, vU_mem 54 (by decide +kernel) rfl, by decide +kernel, by decide +kernel, by decide +kernel⟩
theorem ov_X3_spread : okV mX3_spread := ⟨vU_mem 661 (by decide +kernel) rfl, vU_mem 662 (by decide +kernel) rfl⟩
abbrev mX3_jams : vMeth := (yX3_jams, cX3_jams, 3, (some .int))
theorem ok_X3_jams : okM mX3_jams 0 := ⟨vU_mem 667 (by decide +kernel) rfl, vU_mem 54 (by decide +kernel) rfl, by decide +kernel, by decide +kernel, by decide +kernel⟩
theorem ov_X3_jams : okV mX3_jams := ⟨vU_mem 665 (by decide +kernel) rfl, vU_mem 666 (by decide +kernel) rfl⟩
abbrev mX3_isJam : vMeth := (yX3_isJam, cX3_isJam, 3, (some .boolean))
theorem ok_X3_isJam : okM mX3_isJam 1 := ⟨vU_mem 671 (by decide +kernel) rfl, vU_mem 54 (by decide +kernel) rfl, by decide +kernel, by decide +kernel, by decide +kernel⟩
theorem ov_X3_isJam : okV mX3_isJam := ⟨vU_mem 670 (by decide +kernel) rfl, vU_mem 13 (by decide +kernel) rfl⟩
abbrev mX3_leastJam : vMeth := (yX3_leastJam, cX3_leastJam, 2, (some .int))
theorem ok_X3_leastJam : okM mX3_leastJam 0 := ⟨vU_mem 675 (by decide +kernel) rfl, vU_mem 54 (by decide +kernel) rfl, by decide +kernel, by decide +kernel, by decide +kernel⟩
theorem ov_X3_leastJam : okV mX3_leastJam := ⟨vU_mem 673 (by decide +kernel) rfl, vU_mem 674 (by decide +kernel) rfl⟩
abbrev mX5_kept : vMeth := (yX5_kept, cX5_kept, 2, (some .int))
theorem ok_X5_kept : okM mX5_kept 0 := ⟨vU_mem 679 (by decide +kernel) rfl, vU_mem 49 (by decide +kernel) rfl, by decide +kernel, by decide +kernel, by decide +kernel⟩
theorem ov_X5_kept : okV mX5_kept := ⟨vU_mem 677 (by decide +kernel) rfl, vU_mem 678 (by decide +kernel) rfl⟩
abbrev mX4_states : vMeth := (yX4_states, cX4_states, 1, (some .int))
theorem ok_X4_states : okM mX4_states 0 := ⟨vU_mem 683 (by decide +kernel) rfl, vU_mem 50 (by decide +kernel) rfl, by decide +kernel, by decide +kernel, by decide +kernel⟩
theorem ov_X4_states : okV mX4_states := ⟨vU_mem 681 (by decide +kernel) rfl, vU_mem 682 (by decide +kernel) rfl⟩
abbrev mX5_isSame : vMeth := (yX5_isSame, cX5_isSame, 5, (some .boolean))
theorem ok_X5_isSame : okM mX5_isSame 1 := ⟨vU_mem 687 (by decide +kernel) rfl, vU_mem 49 (by decide +kernel) rfl, by decide +kernel, by decide +kernel, by decide +kernel⟩
theorem ov_X5_isSame : okV mX5_isSame := ⟨vU_mem 686 (by decide +kernel) rfl, vU_mem 14 (by decide +kernel) rfl⟩
abbrev mX5_sumOf : vMeth := (yX5_sumOf, cX5_sumOf, 6, (some .int))
theorem ok_X5_sumOf : okM mX5_sumOf 2 := ⟨vU_mem 690 (by decide +kernel) rfl, vU_mem 49 (by decide +kernel) rfl, by decide +kernel, by decide +kernel, by decide +kernel⟩
theorem os_X5_sumOf : Cond.static mX5_sumOf.1 ∈ vU := vU_mem 689 (by decide +kernel) rfl
abbrev mX5_cut : vMeth := (yX5_cut, cX5_cut, 6, (some .int))
theorem ok_X5_cut : okM mX5_cut 0 := ⟨vU_mem 694 (by decide +kernel) rfl, vU_mem 49 (by decide +kernel) rfl, by decide +kernel, by decide +kernel, by decide +kernel⟩
theorem ov_X5_cut : okV mX5_cut := ⟨vU_mem 692 (by decide +kernel) rfl, vU_mem 693 (by decide +kernel) rfl⟩
abbrev mX5_tie : vMeth := (yX5_tie, cX5_tie, 7, (some .int))
theorem ok_X5_tie : okM mX5_tie 0 := ⟨vU_mem 699 (by decide +kernel) rfl, vU_mem 49 (by decide +kernel) rfl, by decide +kernel, by decide +kernel, by decide +kernel⟩
theorem ov_X5_tie : okV mX5_tie := ⟨vU_mem 697 (by decide +kernel) rfl, vU_mem 698 (by decide +kernel) rfl⟩
abbrev mX5_openedWith : vMeth := (yX5_openedWith, cX5_openedWith, 4, (some .int))
theorem ok_X5_openedWith : okM mX5_openedWith 3 := ⟨vU_mem 704 (by decide +kernel) rfl, vU_mem 49 (by decide +kernel) rfl, by decide +kernel, by decide +kernel, by decide +kernel⟩
theorem ov_X5_openedWith : okV mX5_openedWith := ⟨vU_mem 703 (by decide +kernel) rfl, vU_mem 15 (by decide +kernel) rfl⟩
abbrev mX3_tied : vMeth := (yX3_tied, cX3_tied, 4, none)
theorem ok_X3_tied : okM mX3_tied 3 := ⟨vU_mem 708 (by decide +kernel) rfl, vU_mem 54 (by decide +kernel) rfl, by decide +kernel, by decide +kernel, by decide +kernel⟩
theorem ov_X3_tied : okV mX3_tied := ⟨vU_mem 706 (by decide +kernel) rfl, vU_mem 707 (by decide +kernel) rfl⟩
abbrev mX3_everOpen : vMeth := (yX3_everOpen, cX3_everOpen, 3, (some .int))
theorem ok_X3_everOpen : okM mX3_everOpen 0 := ⟨vU_mem 712 (by decide +kernel) rfl, vU_mem 54 (by decide +kernel) rfl, by decide +kernel, by decide +kernel, by decide +kernel⟩
theorem ov_X3_everOpen : okV mX3_everOpen := ⟨vU_mem 710 (by decide +kernel) rfl, vU_mem 711 (by decide +kernel) rfl⟩
abbrev mJ6_bitCount_0f7a4 : vMeth := (yJ6_bitCount_0f7a4, cJ6_bitCount_0f7a4, 1, (some .int))
theorem ok_J6_bitCount_0f7a4 : okM mJ6_bitCount_0f7a4 1 := ⟨vU_mem 715 (by decide +kernel) rfl, vU_mem 61 (by decide +kernel) rfl, by decide +kernel, by decide +kernel, by decide +kernel⟩
theorem os_J6_bitCount_0f7a4 : Cond.static mJ6_bitCount_0f7a4.1 ∈ vU := vU_mem 714 (by decide +kernel) rfl
abbrev mX5_day : vMeth := (yX5_day, cX5_day, 2, (some .int))
theorem ok_X5_day : okM mX5_day 1 := ⟨vU_mem 722 (by decide +kernel) rfl, vU_mem 49 (by decide +kernel) rfl, by decide +kernel, by decide +kernel, by decide +kernel⟩
theorem ov_X5_day : okV mX5_day := ⟨vU_mem 720 (by decide +kernel) rfl, vU_mem 721 (by decide +kernel) rfl⟩
abbrev mX0_run : vMeth := (yX0_run, cX0_run, 8, none)
theorem ok_X0_run : okM mX0_run 4 := ⟨vU_mem 726 (by decide +kernel) rfl, vU_mem 55 (by decide +kernel) rfl, by decide +kernel, by decide +kernel, by decide +kernel⟩
theorem ov_X0_run : okV mX0_run := ⟨vU_mem 724 (by decide +kernel) rfl, vU_mem 725 (by decide +kernel) rfl⟩
abbrev mX0_exchanged : vMeth := (yX0_exchanged, cX0_exchanged, 4, (some .int))
theorem ok_X0_exchanged : okM mX0_exchanged 3 := ⟨vU_mem 732 (by decide +kernel) rfl, vU_mem 55 (by decide +kernel) rfl, by decide +kernel, by decide +kernel, by decide +kernel⟩
theorem os_X0_exchanged : Cond.static mX0_exchanged.1 ∈ vU := vU_mem 731 (by decide +kernel) rfl
abbrev mX3_nearestOpen : vMeth := (yX3_nearestOpen, cX3_nearestOpen, 9, (some .int))
theorem ok_X3_nearestOpen : okM mX3_nearestOpen 2 := ⟨vU_mem 737 (by decide +kernel) rfl, vU_mem 54 (by decide +kernel) rfl, by decide +kernel, by decide +kernel, by decide +kernel⟩
theorem ov_X3_nearestOpen : okV mX3_nearestOpen := ⟨vU_mem 735 (by decide +kernel) rfl, vU_mem 736 (by decide +kernel) rfl⟩
abbrev mJ6_numberOfTrailingZeros_0f7a4 : vMeth := (yJ6_numberOfTrailingZeros_0f7a4, cJ6_numberOfTrailingZeros_0f7a4, 2, (some .int))
theorem ok_J6_numberOfTrailingZeros_0f7a4 : okM mJ6_numberOfTrailingZeros_0f7a4 1 := ⟨vU_mem 740 (by decide +kernel) rfl, vU_mem 61 (by decide +kernel) rfl, by decide +kernel, by decide +kernel, by decide +kernel⟩
theorem os_J6_numberOfTrailingZeros_0f7a4 : Cond.static mJ6_numberOfTrailingZeros_0f7a4.1 ∈ vU := vU_mem 739 (by decide +kernel) rfl
abbrev mX5_laid : vMeth := (yX5_laid, cX5_laid, 4, (some .int))
theorem ok_X5_laid : okM mX5_laid 0 := ⟨vU_mem 745 (by decide +kernel) rfl, vU_mem 49 (by decide +kernel) rfl, by decide +kernel, by decide +kernel, by decide +kernel⟩
theorem ov_X5_laid : okV mX5_laid := ⟨vU_mem 743 (by decide +kernel) rfl, vU_mem 744 (by decide +kernel) rfl⟩
abbrev mX0_isBetterThan : vMeth := (yX0_isBetterThan, cX0_isBetterThan, 2, (some .boolean))
theorem ok_X0_isBetterThan : okM mX0_isBetterThan 1 := ⟨vU_mem 749 (by decide +kernel) rfl, vU_mem 55 (by decide +kernel) rfl, by decide +kernel, by decide +kernel, by decide +kernel⟩
theorem ov_X0_isBetterThan : okV mX0_isBetterThan := ⟨vU_mem 747 (by decide +kernel) rfl, vU_mem 748 (by decide +kernel) rfl⟩
abbrev mX0_copyFrom : vMeth := (yX0_copyFrom, cX0_copyFrom, 2, none)
theorem ok_X0_copyFrom : okM mX0_copyFrom 1 := ⟨vU_mem 753 (by decide +kernel) rfl, vU_mem 55 (by decide +kernel) rfl, by decide +kernel, by decide +kernel, by decide +kernel⟩
theorem ov_X0_copyFrom : okV mX0_copyFrom := ⟨vU_mem 751 (by decide +kernel) rfl, vU_mem 752 (by decide +kernel) rfl⟩
abbrev mX5_danger : vMeth := (yX5_danger, cX5_danger, 2, (some .int))
theorem ok_X5_danger : okM mX5_danger 1 := ⟨vU_mem 757 (by decide +kernel) rfl, vU_mem 49 (by decide +kernel) rfl, by decide +kernel, by decide +kernel, by decide +kernel⟩
theorem ov_X5_danger : okV mX5_danger := ⟨vU_mem 755 (by decide +kernel) rfl, vU_mem 756 (by decide +kernel) rfl⟩
abbrev mX5_sight : vMeth := (yX5_sight, cX5_sight, 3, (some .int))
theorem ok_X5_sight : okM mX5_sight 2 := ⟨vU_mem 762 (by decide +kernel) rfl, vU_mem 49 (by decide +kernel) rfl, by decide +kernel, by decide +kernel, by decide +kernel⟩
theorem ov_X5_sight : okV mX5_sight := ⟨vU_mem 760 (by decide +kernel) rfl, vU_mem 761 (by decide +kernel) rfl⟩
abbrev mX5_none : vMeth := (yX5_none, cX5_none, 3, (some .int))
theorem ok_X5_none : okM mX5_none 1 := ⟨vU_mem 766 (by decide +kernel) rfl, vU_mem 49 (by decide +kernel) rfl, by decide +kernel, by decide +kernel, by decide +kernel⟩
theorem ov_X5_none : okV mX5_none := ⟨vU_mem 764 (by decide +kernel) rfl, vU_mem 765 (by decide +kernel) rfl⟩
abbrev mX5_fits : vMeth := (yX5_fits, cX5_fits, 6, (some .int))
theorem ok_X5_fits : okM mX5_fits 1 := ⟨vU_mem 770 (by decide +kernel) rfl, vU_mem 49 (by decide +kernel) rfl, by decide +kernel, by decide +kernel, by decide +kernel⟩
theorem ov_X5_fits : okV mX5_fits := ⟨vU_mem 768 (by decide +kernel) rfl, vU_mem 769 (by decide +kernel) rfl⟩
abbrev mX4_isSeenBy : vMeth := (yX4_isSeenBy, cX4_isSeenBy, 4, (some .boolean))
theorem ok_X4_isSeenBy : okM mX4_isSeenBy 1 := ⟨vU_mem 774 (by decide +kernel) rfl, vU_mem 50 (by decide +kernel) rfl, by decide +kernel, by decide +kernel, by decide +kernel⟩
theorem ov_X4_isSeenBy : okV mX4_isSeenBy := ⟨vU_mem 772 (by decide +kernel) rfl, vU_mem 773 (by decide +kernel) rfl⟩
abbrev mX5_image : vMeth := (yX5_image, cX5_image, 2, (some .int))
theorem ok_X5_image : okM mX5_image 1 := ⟨vU_mem 779 (by decide +kernel) rfl, vU_mem 49 (by decide +kernel) rfl, by decide +kernel, by decide +kernel, by decide +kernel⟩
theorem ov_X5_image : okV mX5_image := ⟨vU_mem 777 (by decide +kernel) rfl, vU_mem 778 (by decide +kernel) rfl⟩
abbrev mX5_imageAt : vMeth := (yX5_imageAt, cX5_imageAt, 2, (some (.object "DrawerWall$Wall")))
theorem ok_X5_imageAt : okM mX5_imageAt 1 := ⟨vU_mem 783 (by decide +kernel) rfl, vU_mem 49 (by decide +kernel) rfl, by decide +kernel, by decide +kernel, by decide +kernel⟩
theorem ov_X5_imageAt : okV mX5_imageAt := ⟨vU_mem 782 (by decide +kernel) rfl, vU_mem 16 (by decide +kernel) rfl⟩
abbrev mX5_from : vMeth := (yX5_from, cX5_from, 3, (some .int))
theorem ok_X5_from : okM mX5_from 1 := ⟨vU_mem 787 (by decide +kernel) rfl, vU_mem 49 (by decide +kernel) rfl, by decide +kernel, by decide +kernel, by decide +kernel⟩
theorem ov_X5_from : okV mX5_from := ⟨vU_mem 785 (by decide +kernel) rfl, vU_mem 786 (by decide +kernel) rfl⟩
abbrev mX5_status : vMeth := (yX5_status, cX5_status, 2, (some .int))
theorem ok_X5_status : okM mX5_status 1 := ⟨vU_mem 791 (by decide +kernel) rfl, vU_mem 49 (by decide +kernel) rfl, by decide +kernel, by decide +kernel, by decide +kernel⟩
theorem ov_X5_status : okV mX5_status := ⟨vU_mem 789 (by decide +kernel) rfl, vU_mem 790 (by decide +kernel) rfl⟩
abbrev mX5_count : vMeth := (yX5_count, cX5_count, 2, (some .int))
theorem ok_X5_count : okM mX5_count 1 := ⟨vU_mem 795 (by decide +kernel) rfl, vU_mem 49 (by decide +kernel) rfl, by decide +kernel, by decide +kernel, by decide +kernel⟩
theorem ov_X5_count : okV mX5_count := ⟨vU_mem 793 (by decide +kernel) rfl, vU_mem 794 (by decide +kernel) rfl⟩
abbrev mX5_countOf : vMeth := (yX5_countOf, cX5_countOf, 2, (some .int))
theorem ok_X5_countOf : okM mX5_countOf 1 := ⟨vU_mem 799 (by decide +kernel) rfl, vU_mem 49 (by decide +kernel) rfl, by decide +kernel, by decide +kernel, by decide +kernel⟩
theorem ov_X5_countOf : okV mX5_countOf := ⟨vU_mem 798 (by decide +kernel) rfl, vU_mem 17 (by decide +kernel) rfl⟩
abbrev mX5_digest : vMeth := (yX5_digest, cX5_digest, 4, (some .long))
theorem ok_X5_digest : okM mX5_digest 0 := ⟨vU_mem 803 (by decide +kernel) rfl, vU_mem 49 (by decide +kernel) rfl, by decide +kernel, by decide +kernel, by decide +kernel⟩
theorem ov_X5_digest : okV mX5_digest := ⟨vU_mem 801 (by decide +kernel) rfl, vU_mem 802 (by decide +kernel) rfl⟩
abbrev mX6_init : vMeth := (yX6_init, cX6_init, 1, none)
theorem ok_X6_init : okM mX6_init 0 := ⟨vU_mem 811 (by decide +kernel) rfl, vU_mem 56 (by decide +kernel) rfl, by decide +kernel, by decide +kernel, by decide +kernel⟩
theorem oi_X6_init : Cond.instanceMethod mX6_init.1 ∈ vU := vU_mem 810 (by decide +kernel) rfl
abbrev mX6_begins : vMeth := (yX6_begins, cX6_begins, 3, none)
theorem ok_X6_begins : okM mX6_begins 1 := ⟨vU_mem 816 (by decide +kernel) rfl, vU_mem 56 (by decide +kernel) rfl, by decide +kernel, by decide +kernel, by decide +kernel⟩
theorem ov_X6_begins : okV mX6_begins := ⟨vU_mem 815 (by decide +kernel) rfl, vU_mem 18 (by decide +kernel) rfl⟩
abbrev mX6_wall : vMeth := (yX6_wall, cX6_wall, 3, (some .int))
theorem ok_X6_wall : okM mX6_wall 1 := ⟨vU_mem 882 (by decide +kernel) rfl, vU_mem 56 (by decide +kernel) rfl, by decide +kernel, by decide +kernel, by decide +kernel⟩
theorem ov_X6_wall : okV mX6_wall := ⟨vU_mem 880 (by decide +kernel) rfl, vU_mem 881 (by decide +kernel) rfl⟩
abbrev mX6_in : vMeth := (yX6_in, cX6_in, 6, (some .boolean))
theorem ok_X6_in : okM mX6_in 3 := ⟨vU_mem 887 (by decide +kernel) rfl, vU_mem 56 (by decide +kernel) rfl, by decide +kernel, by decide +kernel, by decide +kernel⟩
theorem os_X6_in : Cond.static mX6_in.1 ∈ vU := vU_mem 886 (by decide +kernel) rfl
abbrev mX6_bad : vMeth := (yX6_bad, cX6_bad, 1, (some .int))
theorem ok_X6_bad : okM mX6_bad 0 := ⟨vU_mem 891 (by decide +kernel) rfl, vU_mem 56 (by decide +kernel) rfl, by decide +kernel, by decide +kernel, by decide +kernel⟩
theorem ov_X6_bad : okV mX6_bad := ⟨vU_mem 890 (by decide +kernel) rfl, vU_mem 19 (by decide +kernel) rfl⟩
abbrev mX6_refuses : vMeth := (yX6_refuses, cX6_refuses, 3, (some .int))
theorem ok_X6_refuses : okM mX6_refuses 2 := ⟨vU_mem 895 (by decide +kernel) rfl, vU_mem 56 (by decide +kernel) rfl, by decide +kernel, by decide +kernel, by decide +kernel⟩
theorem ov_X6_refuses : okV mX6_refuses := ⟨vU_mem 894 (by decide +kernel) rfl, vU_mem 20 (by decide +kernel) rfl⟩
abbrev mX6_cord : vMeth := (yX6_cord, cX6_cord, 5, (some .int))
theorem ok_X6_cord : okM mX6_cord 4 := ⟨vU_mem 899 (by decide +kernel) rfl, vU_mem 56 (by decide +kernel) rfl, by decide +kernel, by decide +kernel, by decide +kernel⟩
theorem ov_X6_cord : okV mX6_cord := ⟨vU_mem 897 (by decide +kernel) rfl, vU_mem 898 (by decide +kernel) rfl⟩
abbrev mX6_isDrawer : vMeth := (yX6_isDrawer, cX6_isDrawer, 2, (some .boolean))
theorem ok_X6_isDrawer : okM mX6_isDrawer 1 := ⟨vU_mem 903 (by decide +kernel) rfl, vU_mem 56 (by decide +kernel) rfl, by decide +kernel, by decide +kernel, by decide +kernel⟩
theorem ov_X6_isDrawer : okV mX6_isDrawer := ⟨vU_mem 902 (by decide +kernel) rfl, vU_mem 21 (by decide +kernel) rfl⟩
abbrev mX6_full : vMeth := (yX6_full, cX6_full, 1, (some .int))
theorem ok_X6_full : okM mX6_full 0 := ⟨vU_mem 909 (by decide +kernel) rfl, vU_mem 56 (by decide +kernel) rfl, by decide +kernel, by decide +kernel, by decide +kernel⟩
theorem ov_X6_full : okV mX6_full := ⟨vU_mem 908 (by decide +kernel) rfl, vU_mem 22 (by decide +kernel) rfl⟩
abbrev mX6_ties : vMeth := (yX6_ties, cX6_ties, 6, none)
theorem ok_X6_ties : okM mX6_ties 4 := ⟨vU_mem 913 (by decide +kernel) rfl, vU_mem 56 (by decide +kernel) rfl, by decide +kernel, by decide +kernel, by decide +kernel⟩
theorem ov_X6_ties : okV mX6_ties := ⟨vU_mem 912 (by decide +kernel) rfl, vU_mem 23 (by decide +kernel) rfl⟩
abbrev mX6_caught : vMeth := (yX6_caught, cX6_caught, 3, (some .int))
theorem ok_X6_caught : okM mX6_caught 2 := ⟨vU_mem 917 (by decide +kernel) rfl, vU_mem 56 (by decide +kernel) rfl, by decide +kernel, by decide +kernel, by decide +kernel⟩
theorem ov_X6_caught : okV mX6_caught := ⟨vU_mem 915 (by decide +kernel) rfl, vU_mem 916 (by decide +kernel) rfl⟩
abbrev mX6_no : vMeth := (yX6_no, cX6_no, 1, (some .int))
theorem ok_X6_no : okM mX6_no 0 := ⟨vU_mem 921 (by decide +kernel) rfl, vU_mem 56 (by decide +kernel) rfl, by decide +kernel, by decide +kernel, by decide +kernel⟩
theorem ov_X6_no : okV mX6_no := ⟨vU_mem 920 (by decide +kernel) rfl, vU_mem 24 (by decide +kernel) rfl⟩
abbrev mX6_good : vMeth := (yX6_good, cX6_good, 4, (some .int))
theorem ok_X6_good : okM mX6_good 2 := ⟨vU_mem 925 (by decide +kernel) rfl, vU_mem 56 (by decide +kernel) rfl, by decide +kernel, by decide +kernel, by decide +kernel⟩
theorem ov_X6_good : okV mX6_good := ⟨vU_mem 923 (by decide +kernel) rfl, vU_mem 924 (by decide +kernel) rfl⟩
abbrev mX6_put : vMeth := (yX6_put, cX6_put, 4, (some .int))
theorem ok_X6_put : okM mX6_put 2 := ⟨vU_mem 930 (by decide +kernel) rfl, vU_mem 56 (by decide +kernel) rfl, by decide +kernel, by decide +kernel, by decide +kernel⟩
theorem ov_X6_put : okV mX6_put := ⟨vU_mem 928 (by decide +kernel) rfl, vU_mem 929 (by decide +kernel) rfl⟩
abbrev mX6_order : vMeth := (yX6_order, cX6_order, 2, (some .int))
theorem ok_X6_order : okM mX6_order 1 := ⟨vU_mem 935 (by decide +kernel) rfl, vU_mem 56 (by decide +kernel) rfl, by decide +kernel, by decide +kernel, by decide +kernel⟩
theorem ov_X6_order : okV mX6_order := ⟨vU_mem 933 (by decide +kernel) rfl, vU_mem 934 (by decide +kernel) rfl⟩
abbrev mX6_type : vMeth := (yX6_type, cX6_type, 5, (some .int))
theorem ok_X6_type : okM mX6_type 2 := ⟨vU_mem 939 (by decide +kernel) rfl, vU_mem 56 (by decide +kernel) rfl, by decide +kernel, by decide +kernel, by decide +kernel⟩
theorem ov_X6_type : okV mX6_type := ⟨vU_mem 937 (by decide +kernel) rfl, vU_mem 938 (by decide +kernel) rfl⟩
abbrev mX6_clear : vMeth := (yX6_clear, cX6_clear, 2, (some .int))
theorem ok_X6_clear : okM mX6_clear 0 := ⟨vU_mem 945 (by decide +kernel) rfl, vU_mem 56 (by decide +kernel) rfl, by decide +kernel, by decide +kernel, by decide +kernel⟩
theorem ov_X6_clear : okV mX6_clear := ⟨vU_mem 943 (by decide +kernel) rfl, vU_mem 944 (by decide +kernel) rfl⟩
abbrev mX6_read : vMeth := (yX6_read, cX6_read, 3, (some .int))
theorem ok_X6_read : okM mX6_read 0 := ⟨vU_mem 949 (by decide +kernel) rfl, vU_mem 56 (by decide +kernel) rfl, by decide +kernel, by decide +kernel, by decide +kernel⟩
theorem ov_X6_read : okV mX6_read := ⟨vU_mem 947 (by decide +kernel) rfl, vU_mem 948 (by decide +kernel) rfl⟩
abbrev mX6_reads : vMeth := (yX6_reads, cX6_reads, 5, (some .boolean))
theorem ok_X6_reads : okM mX6_reads 0 := ⟨vU_mem 953 (by decide +kernel) rfl, vU_mem 56 (by decide +kernel) rfl, by decide +kernel, by decide +kernel, by decide +kernel⟩
theorem ov_X6_reads : okV mX6_reads := ⟨vU_mem 952 (by decide +kernel) rfl, vU_mem 25 (by decide +kernel) rfl⟩
abbrev mX6_scans : vMeth := (yX6_scans, cX6_scans, 3, none)
theorem ok_X6_scans : okM mX6_scans 0 := ⟨vU_mem 957 (by decide +kernel) rfl, vU_mem 56 (by decide +kernel) rfl, by decide +kernel, by decide +kernel, by decide +kernel⟩
theorem ov_X6_scans : okV mX6_scans := ⟨vU_mem 956 (by decide +kernel) rfl, vU_mem 26 (by decide +kernel) rfl⟩
abbrev mX6_isAt : vMeth := (yX6_isAt, cX6_isAt, 3, (some .boolean))
theorem ok_X6_isAt : okM mX6_isAt 2 := ⟨vU_mem 961 (by decide +kernel) rfl, vU_mem 56 (by decide +kernel) rfl, by decide +kernel, by decide +kernel, by decide +kernel⟩
theorem ov_X6_isAt : okV mX6_isAt := ⟨vU_mem 960 (by decide +kernel) rfl, vU_mem 27 (by decide +kernel) rfl⟩
abbrev mX6_verbOf : vMeth := (yX6_verbOf, cX6_verbOf, 4, (some .int))
theorem ok_X6_verbOf : okM mX6_verbOf 1 := ⟨vU_mem 966 (by decide +kernel) rfl, vU_mem 56 (by decide +kernel) rfl, by decide +kernel, by decide +kernel, by decide +kernel⟩
theorem os_X6_verbOf : Cond.static mX6_verbOf.1 ∈ vU := vU_mem 965 (by decide +kernel) rfl
abbrev mX6_tellsItem : vMeth := (yX6_tellsItem, cX6_tellsItem, 6, (some .boolean))
theorem ok_X6_tellsItem : okM mX6_tellsItem 1 := ⟨vU_mem 975 (by decide +kernel) rfl, vU_mem 56 (by decide +kernel) rfl, by decide +kernel, by decide +kernel, by decide +kernel⟩
theorem ov_X6_tellsItem : okV mX6_tellsItem := ⟨vU_mem 974 (by decide +kernel) rfl, vU_mem 28 (by decide +kernel) rfl⟩
abbrev mX6_pull : vMeth := (yX6_pull, cX6_pull, 3, (some .int))
theorem ok_X6_pull : okM mX6_pull 1 := ⟨vU_mem 984 (by decide +kernel) rfl, vU_mem 56 (by decide +kernel) rfl, by decide +kernel, by decide +kernel, by decide +kernel⟩
theorem ov_X6_pull : okV mX6_pull := ⟨vU_mem 982 (by decide +kernel) rfl, vU_mem 983 (by decide +kernel) rfl⟩
abbrev mX6_allCords : vMeth := (yX6_allCords, cX6_allCords, 1, (some .int))
theorem ok_X6_allCords : okM mX6_allCords 0 := ⟨vU_mem 988 (by decide +kernel) rfl, vU_mem 56 (by decide +kernel) rfl, by decide +kernel, by decide +kernel, by decide +kernel⟩
theorem ov_X6_allCords : okV mX6_allCords := ⟨vU_mem 987 (by decide +kernel) rfl, vU_mem 29 (by decide +kernel) rfl⟩
abbrev mX6_pulled : vMeth := (yX6_pulled, cX6_pulled, 10, (some .int))
theorem ok_X6_pulled : okM mX6_pulled 3 := ⟨vU_mem 992 (by decide +kernel) rfl, vU_mem 56 (by decide +kernel) rfl, by decide +kernel, by decide +kernel, by decide +kernel⟩
theorem ov_X6_pulled : okV mX6_pulled := ⟨vU_mem 991 (by decide +kernel) rfl, vU_mem 30 (by decide +kernel) rfl⟩
abbrev mX6_isBeside : vMeth := (yX6_isBeside, cX6_isBeside, 3, (some .boolean))
theorem ok_X6_isBeside : okM mX6_isBeside 2 := ⟨vU_mem 996 (by decide +kernel) rfl, vU_mem 56 (by decide +kernel) rfl, by decide +kernel, by decide +kernel, by decide +kernel⟩
theorem ov_X6_isBeside : okV mX6_isBeside := ⟨vU_mem 995 (by decide +kernel) rfl, vU_mem 31 (by decide +kernel) rfl⟩
abbrev mX6_outIn : vMeth := (yX6_outIn, cX6_outIn, 2, (some .int))
theorem ok_X6_outIn : okM mX6_outIn 2 := ⟨vU_mem 999 (by decide +kernel) rfl, vU_mem 56 (by decide +kernel) rfl, by decide +kernel, by decide +kernel, by decide +kernel⟩
theorem os_X6_outIn : Cond.static mX6_outIn.1 ∈ vU := vU_mem 998 (by decide +kernel) rfl
abbrev mX6_power : vMeth := (yX6_power, cX6_power, 3, (some .int))
theorem ok_X6_power : okM mX6_power 1 := ⟨vU_mem 1002 (by decide +kernel) rfl, vU_mem 56 (by decide +kernel) rfl, by decide +kernel, by decide +kernel, by decide +kernel⟩
theorem os_X6_power : Cond.static mX6_power.1 ∈ vU := vU_mem 1001 (by decide +kernel) rfl
abbrev mX6_amount : vMeth := (yX6_amount, cX6_amount, 9, (some .int))
theorem ok_X6_amount : okM mX6_amount 3 := ⟨vU_mem 1006 (by decide +kernel) rfl, vU_mem 56 (by decide +kernel) rfl, by decide +kernel, by decide +kernel, by decide +kernel⟩
theorem ov_X6_amount : okV mX6_amount := ⟨vU_mem 1005 (by decide +kernel) rfl, vU_mem 32 (by decide +kernel) rfl⟩
abbrev mX6_undo : vMeth := (yX6_undo, cX6_undo, 1, (some .int))
theorem ok_X6_undo : okM mX6_undo 0 := ⟨vU_mem 1010 (by decide +kernel) rfl, vU_mem 56 (by decide +kernel) rfl, by decide +kernel, by decide +kernel, by decide +kernel⟩
theorem ov_X6_undo : okV mX6_undo := ⟨vU_mem 1008 (by decide +kernel) rfl, vU_mem 1009 (by decide +kernel) rfl⟩
abbrev mX6_behind : vMeth := (yX6_behind, cX6_behind, 3, (some .int))
theorem ok_X6_behind : okM mX6_behind 2 := ⟨vU_mem 1014 (by decide +kernel) rfl, vU_mem 56 (by decide +kernel) rfl, by decide +kernel, by decide +kernel, by decide +kernel⟩
theorem ov_X6_behind : okV mX6_behind := ⟨vU_mem 1012 (by decide +kernel) rfl, vU_mem 1013 (by decide +kernel) rfl⟩
abbrev mX6_isState : vMeth := (yX6_isState, cX6_isState, 2, (some .boolean))
theorem ok_X6_isState : okM mX6_isState 1 := ⟨vU_mem 1018 (by decide +kernel) rfl, vU_mem 56 (by decide +kernel) rfl, by decide +kernel, by decide +kernel, by decide +kernel⟩
theorem ov_X6_isState : okV mX6_isState := ⟨vU_mem 1017 (by decide +kernel) rfl, vU_mem 33 (by decide +kernel) rfl⟩
abbrev mX6_states : vMeth := (yX6_states, cX6_states, 1, (some .int))
theorem ok_X6_states : okM mX6_states 0 := ⟨vU_mem 1022 (by decide +kernel) rfl, vU_mem 56 (by decide +kernel) rfl, by decide +kernel, by decide +kernel, by decide +kernel⟩
theorem ov_X6_states : okV mX6_states := ⟨vU_mem 1021 (by decide +kernel) rfl, vU_mem 34 (by decide +kernel) rfl⟩
abbrev mX6_out : vMeth := (yX6_out, cX6_out, 2, (some .int))
theorem ok_X6_out : okM mX6_out 1 := ⟨vU_mem 1026 (by decide +kernel) rfl, vU_mem 56 (by decide +kernel) rfl, by decide +kernel, by decide +kernel, by decide +kernel⟩
theorem ov_X6_out : okV mX6_out := ⟨vU_mem 1024 (by decide +kernel) rfl, vU_mem 1025 (by decide +kernel) rfl⟩
abbrev mX6_pulls : vMeth := (yX6_pulls, cX6_pulls, 4, (some .int))
theorem ok_X6_pulls : okM mX6_pulls 3 := ⟨vU_mem 1030 (by decide +kernel) rfl, vU_mem 56 (by decide +kernel) rfl, by decide +kernel, by decide +kernel, by decide +kernel⟩
theorem ov_X6_pulls : okV mX6_pulls := ⟨vU_mem 1028 (by decide +kernel) rfl, vU_mem 1029 (by decide +kernel) rfl⟩
abbrev mX6_rows : vMeth := (yX6_rows, cX6_rows, 9, (some .int))
theorem ok_X6_rows : okM mX6_rows 4 := ⟨vU_mem 1034 (by decide +kernel) rfl, vU_mem 56 (by decide +kernel) rfl, by decide +kernel, by decide +kernel, by decide +kernel⟩
theorem ov_X6_rows : okV mX6_rows := ⟨vU_mem 1033 (by decide +kernel) rfl, vU_mem 35 (by decide +kernel) rfl⟩
abbrev mX6_lays : vMeth := (yX6_lays, cX6_lays, 3, none)
theorem ok_X6_lays : okM mX6_lays 0 := ⟨vU_mem 1038 (by decide +kernel) rfl, vU_mem 56 (by decide +kernel) rfl, by decide +kernel, by decide +kernel, by decide +kernel⟩
theorem ov_X6_lays : okV mX6_lays := ⟨vU_mem 1037 (by decide +kernel) rfl, vU_mem 36 (by decide +kernel) rfl⟩
abbrev mX6_reckons : vMeth := (yX6_reckons, cX6_reckons, 8, none)
theorem ok_X6_reckons : okM mX6_reckons 3 := ⟨vU_mem 1042 (by decide +kernel) rfl, vU_mem 56 (by decide +kernel) rfl, by decide +kernel, by decide +kernel, by decide +kernel⟩
theorem ov_X6_reckons : okV mX6_reckons := ⟨vU_mem 1041 (by decide +kernel) rfl, vU_mem 37 (by decide +kernel) rfl⟩
abbrev mX6_isDanger : vMeth := (yX6_isDanger, cX6_isDanger, 7, (some .boolean))
theorem ok_X6_isDanger : okM mX6_isDanger 1 := ⟨vU_mem 1046 (by decide +kernel) rfl, vU_mem 56 (by decide +kernel) rfl, by decide +kernel, by decide +kernel, by decide +kernel⟩
theorem ov_X6_isDanger : okV mX6_isDanger := ⟨vU_mem 1045 (by decide +kernel) rfl, vU_mem 38 (by decide +kernel) rfl⟩
abbrev mX6_isEnd : vMeth := (yX6_isEnd, cX6_isEnd, 6, (some .boolean))
theorem ok_X6_isEnd : okM mX6_isEnd 3 := ⟨vU_mem 1050 (by decide +kernel) rfl, vU_mem 56 (by decide +kernel) rfl, by decide +kernel, by decide +kernel, by decide +kernel⟩
theorem ov_X6_isEnd : okV mX6_isEnd := ⟨vU_mem 1049 (by decide +kernel) rfl, vU_mem 39 (by decide +kernel) rfl⟩
abbrev mX6_next : vMeth := (yX6_next, cX6_next, 3, (some .int))
theorem ok_X6_next : okM mX6_next 1 := ⟨vU_mem 1054 (by decide +kernel) rfl, vU_mem 56 (by decide +kernel) rfl, by decide +kernel, by decide +kernel, by decide +kernel⟩
theorem ov_X6_next : okV mX6_next := ⟨vU_mem 1053 (by decide +kernel) rfl, vU_mem 40 (by decide +kernel) rfl⟩
abbrev mX6_safe : vMeth := (yX6_safe, cX6_safe, 4, (some .int))
theorem ok_X6_safe : okM mX6_safe 3 := ⟨vU_mem 1058 (by decide +kernel) rfl, vU_mem 56 (by decide +kernel) rfl, by decide +kernel, by decide +kernel, by decide +kernel⟩
theorem ov_X6_safe : okV mX6_safe := ⟨vU_mem 1056 (by decide +kernel) rfl, vU_mem 1057 (by decide +kernel) rfl⟩
abbrev mX6_reach : vMeth := (yX6_reach, cX6_reach, 7, (some .int))
theorem ok_X6_reach : okM mX6_reach 1 := ⟨vU_mem 1062 (by decide +kernel) rfl, vU_mem 56 (by decide +kernel) rfl, by decide +kernel, by decide +kernel, by decide +kernel⟩
theorem ov_X6_reach : okV mX6_reach := ⟨vU_mem 1060 (by decide +kernel) rfl, vU_mem 1061 (by decide +kernel) rfl⟩
abbrev mX6_goes : vMeth := (yX6_goes, cX6_goes, 5, none)
theorem ok_X6_goes : okM mX6_goes 1 := ⟨vU_mem 1066 (by decide +kernel) rfl, vU_mem 56 (by decide +kernel) rfl, by decide +kernel, by decide +kernel, by decide +kernel⟩
theorem ov_X6_goes : okV mX6_goes := ⟨vU_mem 1065 (by decide +kernel) rfl, vU_mem 41 (by decide +kernel) rfl⟩
abbrev mX6_kept : vMeth := (yX6_kept, cX6_kept, 4, (some .int))
theorem ok_X6_kept : okM mX6_kept 0 := ⟨vU_mem 1070 (by decide +kernel) rfl, vU_mem 56 (by decide +kernel) rfl, by decide +kernel, by decide +kernel, by decide +kernel⟩
theorem ov_X6_kept : okV mX6_kept := ⟨vU_mem 1068 (by decide +kernel) rfl, vU_mem 1069 (by decide +kernel) rfl⟩
abbrev mX6_sumBy : vMeth := (yX6_sumBy, cX6_sumBy, 5, (some .int))
theorem ok_X6_sumBy : okM mX6_sumBy 2 := ⟨vU_mem 1074 (by decide +kernel) rfl, vU_mem 56 (by decide +kernel) rfl, by decide +kernel, by decide +kernel, by decide +kernel⟩
theorem ov_X6_sumBy : okV mX6_sumBy := ⟨vU_mem 1073 (by decide +kernel) rfl, vU_mem 42 (by decide +kernel) rfl⟩
abbrev mX6_cut : vMeth := (yX6_cut, cX6_cut, 4, (some .int))
theorem ok_X6_cut : okM mX6_cut 0 := ⟨vU_mem 1078 (by decide +kernel) rfl, vU_mem 56 (by decide +kernel) rfl, by decide +kernel, by decide +kernel, by decide +kernel⟩
theorem ov_X6_cut : okV mX6_cut := ⟨vU_mem 1076 (by decide +kernel) rfl, vU_mem 1077 (by decide +kernel) rfl⟩
abbrev mX6_tie : vMeth := (yX6_tie, cX6_tie, 7, (some .int))
theorem ok_X6_tie : okM mX6_tie 0 := ⟨vU_mem 1082 (by decide +kernel) rfl, vU_mem 56 (by decide +kernel) rfl, by decide +kernel, by decide +kernel, by decide +kernel⟩
theorem ov_X6_tie : okV mX6_tie := ⟨vU_mem 1080 (by decide +kernel) rfl, vU_mem 1081 (by decide +kernel) rfl⟩
abbrev mX6_opens : vMeth := (yX6_opens, cX6_opens, 5, (some .int))
theorem ok_X6_opens : okM mX6_opens 0 := ⟨vU_mem 1086 (by decide +kernel) rfl, vU_mem 56 (by decide +kernel) rfl, by decide +kernel, by decide +kernel, by decide +kernel⟩
theorem ov_X6_opens : okV mX6_opens := ⟨vU_mem 1085 (by decide +kernel) rfl, vU_mem 43 (by decide +kernel) rfl⟩
abbrev mX6_day : vMeth := (yX6_day, cX6_day, 3, (some .int))
theorem ok_X6_day : okM mX6_day 1 := ⟨vU_mem 1090 (by decide +kernel) rfl, vU_mem 56 (by decide +kernel) rfl, by decide +kernel, by decide +kernel, by decide +kernel⟩
theorem ov_X6_day : okV mX6_day := ⟨vU_mem 1088 (by decide +kernel) rfl, vU_mem 1089 (by decide +kernel) rfl⟩
abbrev mX6_days : vMeth := (yX6_days, cX6_days, 7, (some .int))
theorem ok_X6_days : okM mX6_days 0 := ⟨vU_mem 1094 (by decide +kernel) rfl, vU_mem 56 (by decide +kernel) rfl, by decide +kernel, by decide +kernel, by decide +kernel⟩
theorem ov_X6_days : okV mX6_days := ⟨vU_mem 1093 (by decide +kernel) rfl, vU_mem 44 (by decide +kernel) rfl⟩
abbrev mX6_laid : vMeth := (yX6_laid, cX6_laid, 8, (some .int))
theorem ok_X6_laid : okM mX6_laid 0 := ⟨vU_mem 1098 (by decide +kernel) rfl, vU_mem 56 (by decide +kernel) rfl, by decide +kernel, by decide +kernel, by decide +kernel⟩
theorem ov_X6_laid : okV mX6_laid := ⟨vU_mem 1096 (by decide +kernel) rfl, vU_mem 1097 (by decide +kernel) rfl⟩
abbrev mX6_swaps : vMeth := (yX6_swaps, cX6_swaps, 4, none)
theorem ok_X6_swaps : okM mX6_swaps 2 := ⟨vU_mem 1102 (by decide +kernel) rfl, vU_mem 56 (by decide +kernel) rfl, by decide +kernel, by decide +kernel, by decide +kernel⟩
theorem ov_X6_swaps : okV mX6_swaps := ⟨vU_mem 1101 (by decide +kernel) rfl, vU_mem 45 (by decide +kernel) rfl⟩
abbrev mX6_danger : vMeth := (yX6_danger, cX6_danger, 2, (some .int))
theorem ok_X6_danger : okM mX6_danger 1 := ⟨vU_mem 1106 (by decide +kernel) rfl, vU_mem 56 (by decide +kernel) rfl, by decide +kernel, by decide +kernel, by decide +kernel⟩
theorem ov_X6_danger : okV mX6_danger := ⟨vU_mem 1104 (by decide +kernel) rfl, vU_mem 1105 (by decide +kernel) rfl⟩
abbrev mX6_sight : vMeth := (yX6_sight, cX6_sight, 3, (some .int))
theorem ok_X6_sight : okM mX6_sight 2 := ⟨vU_mem 1110 (by decide +kernel) rfl, vU_mem 56 (by decide +kernel) rfl, by decide +kernel, by decide +kernel, by decide +kernel⟩
theorem ov_X6_sight : okV mX6_sight := ⟨vU_mem 1108 (by decide +kernel) rfl, vU_mem 1109 (by decide +kernel) rfl⟩
abbrev mX6_none : vMeth := (yX6_none, cX6_none, 3, (some .int))
theorem ok_X6_none : okM mX6_none 1 := ⟨vU_mem 1114 (by decide +kernel) rfl, vU_mem 56 (by decide +kernel) rfl, by decide +kernel, by decide +kernel, by decide +kernel⟩
theorem ov_X6_none : okV mX6_none := ⟨vU_mem 1112 (by decide +kernel) rfl, vU_mem 1113 (by decide +kernel) rfl⟩
abbrev mX6_fits : vMeth := (yX6_fits, cX6_fits, 9, (some .int))
theorem ok_X6_fits : okM mX6_fits 1 := ⟨vU_mem 1118 (by decide +kernel) rfl, vU_mem 56 (by decide +kernel) rfl, by decide +kernel, by decide +kernel, by decide +kernel⟩
theorem ov_X6_fits : okV mX6_fits := ⟨vU_mem 1116 (by decide +kernel) rfl, vU_mem 1117 (by decide +kernel) rfl⟩
abbrev mX6_image : vMeth := (yX6_image, cX6_image, 3, (some .int))
theorem ok_X6_image : okM mX6_image 1 := ⟨vU_mem 1122 (by decide +kernel) rfl, vU_mem 56 (by decide +kernel) rfl, by decide +kernel, by decide +kernel, by decide +kernel⟩
theorem ov_X6_image : okV mX6_image := ⟨vU_mem 1120 (by decide +kernel) rfl, vU_mem 1121 (by decide +kernel) rfl⟩
abbrev mX6_from : vMeth := (yX6_from, cX6_from, 3, (some .int))
theorem ok_X6_from : okM mX6_from 1 := ⟨vU_mem 1126 (by decide +kernel) rfl, vU_mem 56 (by decide +kernel) rfl, by decide +kernel, by decide +kernel, by decide +kernel⟩
theorem ov_X6_from : okV mX6_from := ⟨vU_mem 1124 (by decide +kernel) rfl, vU_mem 1125 (by decide +kernel) rfl⟩
abbrev mX6_status : vMeth := (yX6_status, cX6_status, 2, (some .int))
theorem ok_X6_status : okM mX6_status 1 := ⟨vU_mem 1130 (by decide +kernel) rfl, vU_mem 56 (by decide +kernel) rfl, by decide +kernel, by decide +kernel, by decide +kernel⟩
theorem ov_X6_status : okV mX6_status := ⟨vU_mem 1128 (by decide +kernel) rfl, vU_mem 1129 (by decide +kernel) rfl⟩
abbrev mX6_count : vMeth := (yX6_count, cX6_count, 2, (some .int))
theorem ok_X6_count : okM mX6_count 1 := ⟨vU_mem 1134 (by decide +kernel) rfl, vU_mem 56 (by decide +kernel) rfl, by decide +kernel, by decide +kernel, by decide +kernel⟩
theorem ov_X6_count : okV mX6_count := ⟨vU_mem 1132 (by decide +kernel) rfl, vU_mem 1133 (by decide +kernel) rfl⟩
abbrev mX6_countOf : vMeth := (yX6_countOf, cX6_countOf, 2, (some .int))
theorem ok_X6_countOf : okM mX6_countOf 1 := ⟨vU_mem 1138 (by decide +kernel) rfl, vU_mem 56 (by decide +kernel) rfl, by decide +kernel, by decide +kernel, by decide +kernel⟩
theorem ov_X6_countOf : okV mX6_countOf := ⟨vU_mem 1137 (by decide +kernel) rfl, vU_mem 46 (by decide +kernel) rfl⟩
abbrev mX6_digest : vMeth := (yX6_digest, cX6_digest, 4, (some .long))
theorem ok_X6_digest : okM mX6_digest 0 := ⟨vU_mem 1142 (by decide +kernel) rfl, vU_mem 56 (by decide +kernel) rfl, by decide +kernel, by decide +kernel, by decide +kernel⟩
theorem ov_X6_digest : okV mX6_digest := ⟨vU_mem 1140 (by decide +kernel) rfl, vU_mem 1141 (by decide +kernel) rfl⟩
abbrev mX6_mixed : vMeth := (yX6_mixed, cX6_mixed, 8, (some .long))
theorem ok_X6_mixed : okM mX6_mixed 3 := ⟨vU_mem 1148 (by decide +kernel) rfl, vU_mem 56 (by decide +kernel) rfl, by decide +kernel, by decide +kernel, by decide +kernel⟩
theorem ov_X6_mixed : okV mX6_mixed := ⟨vU_mem 1147 (by decide +kernel) rfl, vU_mem 47 (by decide +kernel) rfl⟩
theorem ln_L_9 : okL RL 9 mX5_init := Or.inl (vU_mem 64 (by decide +kernel) rfl)
theorem ln_X5_9 : okL RX5 9 mX4_init := Or.inl (vU_mem 72 (by decide +kernel) rfl)
theorem ln_X4_29 : okL RX4 29 mX2_init := Or.inl (vU_mem 78 (by decide +kernel) rfl)
theorem ln_X2_13 : okL RX2 13 mJ9_max_7cf53 := Or.inl (vU_mem 82 (by decide +kernel) rfl)
theorem ln_X4_60 : okL RX4 60 mX4_tellDrawers := Or.inl (vU_mem 93 (by decide +kernel) rfl)
theorem ln_X4_64 : okL RX4 64 mX2_drop := Or.inl (vU_mem 97 (by decide +kernel) rfl)
theorem ln_X4_67 : okL RX4 67 mX2_add := Or.inl (vU_mem 101 (by decide +kernel) rfl)
theorem ln_X5_34 : okL RX5 34 mX2_init := Or.inl (vU_mem 164 (by decide +kernel) rfl)
theorem ln_X5_43 : okL RX5 43 mX1_init := Or.inr ⟨"DrawerWall", List.mem_of_getElem? (i := 167) (by decide +kernel)⟩
theorem ln_X1_11 : okL RX1 11 mX2_init := Or.inl (vU_mem 172 (by decide +kernel) rfl)
theorem ln_X5_50 : okL RX5 50 mX3_init := Or.inl (vU_mem 191 (by decide +kernel) rfl)
theorem ln_X3_11 : okL RX3 11 mX2_init := Or.inl (vU_mem 196 (by decide +kernel) rfl)
theorem ln_X3_52 : okL RX3 52 mX2_fill := Or.inl (vU_mem 197 (by decide +kernel) rfl)
theorem ln_X2_31 : okL RX2 31 mJ9_min_7cf53 := Or.inl (vU_mem 201 (by decide +kernel) rfl)
theorem ln_X5_57 : okL RX5 57 mX0_init := Or.inr ⟨"DrawerWall", List.mem_of_getElem? (i := 243) (by decide +kernel)⟩
theorem ln_L_13 : okL RL 13 mX5_wall := Or.inl (vU_mem 302 (by decide +kernel) rfl)
theorem ln_X5_78 : okL RX5 78 mX3_forget := Or.inl (vU_mem 306 (by decide +kernel) rfl)
theorem ln_X5_81 : okL RX5 81 mX4_tellDrawers := Or.inl (vU_mem 310 (by decide +kernel) rfl)
theorem ln_X5_85 : okL RX5 85 mX5_told := Or.inl (vU_mem 311 (by decide +kernel) rfl)
theorem ln_L_18 : okL RL 18 mX5_cord := Or.inl (vU_mem 315 (by decide +kernel) rfl)
theorem ln_X5_88 : okL RX5 88 mX4_tellCord := Or.inl (vU_mem 319 (by decide +kernel) rfl)
theorem ln_X4_70 : okL RX4 70 mX4_hasDrawer := Or.inl (vU_mem 323 (by decide +kernel) rfl)
theorem ln_X4_74 : okL RX4 74 mX2_isFull := Or.inl (vU_mem 327 (by decide +kernel) rfl)
theorem ln_X4_78 : okL RX4 78 mX2_size := Or.inl (vU_mem 331 (by decide +kernel) rfl)
theorem ln_L_23 : okL RL 23 mX5_caught := Or.inl (vU_mem 335 (by decide +kernel) rfl)
theorem ln_X5_92 : okL RX5 92 mX4_tellCatch := Or.inl (vU_mem 339 (by decide +kernel) rfl)
theorem ln_X4_82 : okL RX4 82 mX4_hasCatch := Or.inl (vU_mem 343 (by decide +kernel) rfl)
theorem ln_L_28 : okL RL 28 mX5_good := Or.inl (vU_mem 347 (by decide +kernel) rfl)
theorem ln_X5_96 : okL RX5 96 mX4_tellGoods := Or.inl (vU_mem 351 (by decide +kernel) rfl)
theorem ln_X4_85 : okL RX4 85 mX2_at := Or.inl (vU_mem 355 (by decide +kernel) rfl)
theorem ln_X4_88 : okL RX4 88 mX2_set := Or.inl (vU_mem 359 (by decide +kernel) rfl)
theorem ln_L_33 : okL RL 33 mX5_put := Or.inl (vU_mem 363 (by decide +kernel) rfl)
theorem ln_L_37 : okL RL 37 mX5_order := Or.inl (vU_mem 367 (by decide +kernel) rfl)
theorem ln_X5_106 : okL RX5 106 mX4_tellOrder := Or.inl (vU_mem 371 (by decide +kernel) rfl)
theorem ln_L_43 : okL RL 43 mX5_type := Or.inl (vU_mem 375 (by decide +kernel) rfl)
theorem ln_X5_109 : okL RX5 109 mX2_size := Or.inl (vU_mem 379 (by decide +kernel) rfl)
theorem ln_X5_113 : okL RX5 113 mX2_add := Or.inl (vU_mem 380 (by decide +kernel) rfl)
theorem ln_L_48 : okL RL 48 mX5_clear := Or.inl (vU_mem 381 (by decide +kernel) rfl)
theorem ln_X5_116 : okL RX5 116 mX2_drop := Or.inl (vU_mem 385 (by decide +kernel) rfl)
theorem ln_L_53 : okL RL 53 mX5_read := Or.inl (vU_mem 386 (by decide +kernel) rfl)
theorem ln_X5_119 : okL RX5 119 mX1_faultIn := Or.inl (vU_mem 390 (by decide +kernel) rfl)
theorem ln_X1_37 : okL RX1 37 mX2_copyFrom := Or.inl (vU_mem 394 (by decide +kernel) rfl)
theorem ln_X2_23 : okL RX2 23 mX2_at := Or.inl (vU_mem 398 (by decide +kernel) rfl)
theorem ln_X2_34 : okL RX2 34 mX2_add := Or.inl (vU_mem 399 (by decide +kernel) rfl)
theorem ln_X1_41 : okL RX1 41 mX2_drop := Or.inl (vU_mem 400 (by decide +kernel) rfl)
theorem ln_X1_33 : okL RX1 33 mX2_size := Or.inl (vU_mem 401 (by decide +kernel) rfl)
theorem ln_X1_44 : okL RX1 44 mX1_scan := Or.inl (vU_mem 402 (by decide +kernel) rfl)
theorem ln_X1_61 : okL RX1 61 mX2_at := Or.inl (vU_mem 406 (by decide +kernel) rfl)
theorem ln_X1_64 : okL RX1 64 mX2_holds := Or.inl (vU_mem 407 (by decide +kernel) rfl)
theorem ln_X1_67 : okL RX1 67 mX1_isLetter := Or.inl (vU_mem 411 (by decide +kernel) rfl)
theorem ln_X1_70 : okL RX1 70 mX1_wordHere := Or.inl (vU_mem 414 (by decide +kernel) rfl)
theorem ln_X1_81 : okL RX1 81 mX1_isHere := Or.inl (vU_mem 419 (by decide +kernel) rfl)
theorem ln_X1_93 : okL RX1 93 mJ0_length_8abf5 := Or.inl (vU_mem 423 (by decide +kernel) rfl)
theorem ln_J0_335 : okL RJ0 335 mJ0_coder_7d493 := Or.inl (vU_mem 427 (by decide +kernel) rfl)
theorem ln_X1_98 : okL RX1 98 mJ0_charAt_5068e := Or.inl (vU_mem 433 (by decide +kernel) rfl)
theorem ln_J0_492 : okL RJ0 492 mJ0_isLatin1_aae02 := Or.inl (vU_mem 437 (by decide +kernel) rfl)
theorem ln_J0_495 : okL RJ0 495 mJ1_charAt_3b067 := Or.inl (vU_mem 441 (by decide +kernel) rfl)
theorem ln_J1_9 : okL RJ1 9 mJ0_checkIndex_df160 := Or.inl (vU_mem 444 (by decide +kernel) rfl)
theorem ln_J0_1059 : okL RJ0 1059 mJ3_checkIndex_8e157 := Or.inl (vU_mem 449 (by decide +kernel) rfl)
theorem ln_J0_498 : okL RJ0 498 mJ2_charAt_3b067 := Or.inl (vU_mem 452 (by decide +kernel) rfl)
theorem ln_J2_67 : okL RJ2 67 mJ2_checkIndex_2214a := Or.inl (vU_mem 455 (by decide +kernel) rfl)
theorem ln_J2_48 : okL RJ2 48 mJ2_length_9d52b := Or.inl (vU_mem 458 (by decide +kernel) rfl)
theorem ln_J2_414 : okL RJ2 414 mJ0_checkIndex_df160 := Or.inl (vU_mem 461 (by decide +kernel) rfl)
theorem ln_J2_71 : okL RJ2 71 mJ2_getChar_3b067 := Or.inl (vU_mem 462 (by decide +kernel) rfl)
theorem ln_X1_73 : okL RX1 73 mX1_isFigure := Or.inl (vU_mem 475 (by decide +kernel) rfl)
theorem ln_X1_76 : okL RX1 76 mX1_numberHere := Or.inl (vU_mem 478 (by decide +kernel) rfl)
theorem ln_X1_47 : okL RX1 47 mX1_items := Or.inl (vU_mem 482 (by decide +kernel) rfl)
theorem ln_X1_50 : okL RX1 50 mX1_takeItem := Or.inl (vU_mem 486 (by decide +kernel) rfl)
theorem ln_X1_54 : okL RX1 54 mX1_numbersOf := Or.inl (vU_mem 490 (by decide +kernel) rfl)
theorem ln_X1_58 : okL RX1 58 mX2_add := Or.inl (vU_mem 493 (by decide +kernel) rfl)
theorem ln_X5_123 : okL RX5 123 mX1_refusedBy := Or.inl (vU_mem 494 (by decide +kernel) rfl)
theorem ln_X1_102 : okL RX1 102 mX1_tell := Or.inl (vU_mem 498 (by decide +kernel) rfl)
theorem ln_X1_106 : okL RX1 106 mX4_tellDrawers := Or.inl (vU_mem 502 (by decide +kernel) rfl)
theorem ln_X1_111 : okL RX1 111 mX4_tellCord := Or.inl (vU_mem 503 (by decide +kernel) rfl)
theorem ln_X1_115 : okL RX1 115 mX4_tellCatch := Or.inl (vU_mem 504 (by decide +kernel) rfl)
theorem ln_X1_119 : okL RX1 119 mX4_tellGoods := Or.inl (vU_mem 505 (by decide +kernel) rfl)
theorem ln_X1_123 : okL RX1 123 mX4_tellOrder := Or.inl (vU_mem 506 (by decide +kernel) rfl)
theorem ln_X5_127 : okL RX5 127 mX4_copyFrom := Or.inl (vU_mem 507 (by decide +kernel) rfl)
theorem ln_X4_92 : okL RX4 92 mX2_copyFrom := Or.inl (vU_mem 511 (by decide +kernel) rfl)
theorem ln_X5_131 : okL RX5 131 mX1_items := Or.inl (vU_mem 512 (by decide +kernel) rfl)
theorem ln_L_57 : okL RL 57 mX5_pull := Or.inl (vU_mem 514 (by decide +kernel) rfl)
theorem ln_X5_134 : okL RX5 134 mX4_hasDrawer := Or.inl (vU_mem 518 (by decide +kernel) rfl)
theorem ln_X5_138 : okL RX5 138 mX4_remember := Or.inl (vU_mem 519 (by decide +kernel) rfl)
theorem ln_X4_99 : okL RX4 99 mX2_dropFirst := Or.inl (vU_mem 523 (by decide +kernel) rfl)
theorem ln_X2_27 : okL RX2 27 mX2_set := Or.inl (vU_mem 527 (by decide +kernel) rfl)
theorem ln_X5_144 : okL RX5 144 mX4_after := Or.inl (vU_mem 528 (by decide +kernel) rfl)
theorem ln_X4_102 : okL RX4 102 mX5_isOpenBeside := Or.inr ⟨"DrawerWall", List.mem_of_getElem? (i := 532) (by decide +kernel)⟩
theorem ln_X5_310 : okL RX5 310 mX5_beside := Or.inl (vU_mem 535 (by decide +kernel) rfl)
theorem ln_X5_313 : okL RX5 313 mX5_drawersOut := Or.inl (vU_mem 538 (by decide +kernel) rfl)
theorem ln_X4_106 : okL RX4 106 mX5_outIn := Or.inr ⟨"DrawerWall", List.mem_of_getElem? (i := 541) (by decide +kernel)⟩
theorem ln_X4_110 : okL RX4 110 mX5_moved := Or.inr ⟨"DrawerWall", List.mem_of_getElem? (i := 544) (by decide +kernel)⟩
theorem ln_X5_157 : okL RX5 157 mX5_outIn := Or.inl (vU_mem 547 (by decide +kernel) rfl)
theorem ln_X5_304 : okL RX5 304 mJ9_min_7cf53 := Or.inl (vU_mem 548 (by decide +kernel) rfl)
theorem ln_X5_202 : okL RX5 202 mJ9_max_7cf53 := Or.inl (vU_mem 549 (by decide +kernel) rfl)
theorem ln_X5_307 : okL RX5 307 mX5_power := Or.inl (vU_mem 550 (by decide +kernel) rfl)
theorem ln_X4_114 : okL RX4 114 mX4_amount := Or.inl (vU_mem 553 (by decide +kernel) rfl)
theorem ln_X4_118 : okL RX4 118 mJ9_max_7cf53 := Or.inl (vU_mem 557 (by decide +kernel) rfl)
theorem ln_X4_123 : okL RX4 123 mJ9_min_7cf53 := Or.inl (vU_mem 558 (by decide +kernel) rfl)
theorem ln_L_61 : okL RL 61 mX5_undo := Or.inl (vU_mem 559 (by decide +kernel) rfl)
theorem ln_X5_151 : okL RX5 151 mX2_takeLast := Or.inl (vU_mem 563 (by decide +kernel) rfl)
theorem ln_L_65 : okL RL 65 mX5_behind := Or.inl (vU_mem 567 (by decide +kernel) rfl)
theorem ln_X5_154 : okL RX5 154 mX4_hasState := Or.inl (vU_mem 571 (by decide +kernel) rfl)
theorem ln_X4_96 : okL RX4 96 mX5_power := Or.inr ⟨"DrawerWall", List.mem_of_getElem? (i := 575) (by decide +kernel)⟩
theorem ln_L_69 : okL RL 69 mX5_out := Or.inl (vU_mem 576 (by decide +kernel) rfl)
theorem ln_L_73 : okL RL 73 mX5_pulls := Or.inl (vU_mem 580 (by decide +kernel) rfl)
theorem ln_X5_160 : okL RX5 160 mX3_learn := Or.inl (vU_mem 584 (by decide +kernel) rfl)
theorem ln_X3_59 : okL RX3 59 mX5_power := Or.inr ⟨"DrawerWall", List.mem_of_getElem? (i := 588) (by decide +kernel)⟩
theorem ln_X3_63 : okL RX3 63 mX3_learnDrawer := Or.inl (vU_mem 589 (by decide +kernel) rfl)
theorem ln_X3_67 : okL RX3 67 mX4_after := Or.inl (vU_mem 593 (by decide +kernel) rfl)
theorem ln_X3_71 : okL RX3 71 mX2_set := Or.inl (vU_mem 594 (by decide +kernel) rfl)
theorem ln_X5_163 : okL RX5 163 mX5_pullOf := Or.inl (vU_mem 595 (by decide +kernel) rfl)
theorem ln_X5_286 : okL RX5 286 mX4_hasSet := Or.inl (vU_mem 599 (by decide +kernel) rfl)
theorem ln_X5_269 : okL RX5 269 mX3_begin := Or.inl (vU_mem 603 (by decide +kernel) rfl)
theorem ln_X3_80 : okL RX3 80 mX2_drop := Or.inl (vU_mem 607 (by decide +kernel) rfl)
theorem ln_X5_289 : okL RX5 289 mX3_barDangers := Or.inl (vU_mem 608 (by decide +kernel) rfl)
theorem ln_X3_83 : okL RX3 83 mX4_isDanger := Or.inl (vU_mem 612 (by decide +kernel) rfl)
theorem ln_X4_126 : okL RX4 126 mX4_drawersWith := Or.inl (vU_mem 616 (by decide +kernel) rfl)
theorem ln_X4_129 : okL RX4 129 mX5_drawersOut := Or.inr ⟨"DrawerWall", List.mem_of_getElem? (i := 620) (by decide +kernel)⟩
theorem ln_X4_132 : okL RX4 132 mX5_beside := Or.inr ⟨"DrawerWall", List.mem_of_getElem? (i := 621) (by decide +kernel)⟩
theorem ln_X5_292 : okL RX5 292 mX3_firstWith := Or.inl (vU_mem 622 (by decide +kernel) rfl)
theorem ln_X3_87 : okL RX3 87 mX3_meet := Or.inl (vU_mem 626 (by decide +kernel) rfl)
theorem ln_X3_74 : okL RX3 74 mX2_at := Or.inl (vU_mem 630 (by decide +kernel) rfl)
theorem ln_X3_102 : okL RX3 102 mX2_add := Or.inl (vU_mem 631 (by decide +kernel) rfl)
theorem ln_X3_91 : okL RX3 91 mX2_size := Or.inl (vU_mem 632 (by decide +kernel) rfl)
theorem ln_X3_105 : okL RX3 105 mX5_drawersOut := Or.inr ⟨"DrawerWall", List.mem_of_getElem? (i := 633) (by decide +kernel)⟩
theorem ln_X3_95 : okL RX3 95 mX3_grow := Or.inl (vU_mem 634 (by decide +kernel) rfl)
theorem ln_X3_98 : okL RX3 98 mX3_step := Or.inl (vU_mem 638 (by decide +kernel) rfl)
theorem ln_X3_77 : okL RX3 77 mX5_moved := Or.inr ⟨"DrawerWall", List.mem_of_getElem? (i := 642) (by decide +kernel)⟩
theorem ln_X5_185 : okL RX5 185 mX2_at := Or.inl (vU_mem 643 (by decide +kernel) rfl)
theorem ln_X5_298 : okL RX5 298 mX3_pulledAt := Or.inl (vU_mem 644 (by decide +kernel) rfl)
theorem ln_L_78 : okL RL 78 mX5_safe := Or.inl (vU_mem 648 (by decide +kernel) rfl)
theorem ln_L_82 : okL RL 82 mX5_reach := Or.inl (vU_mem 652 (by decide +kernel) rfl)
theorem ln_X5_167 : okL RX5 167 mX5_reached := Or.inl (vU_mem 656 (by decide +kernel) rfl)
theorem ln_X5_272 : okL RX5 272 mX3_spread := Or.inl (vU_mem 660 (by decide +kernel) rfl)
theorem ln_X5_170 : okL RX5 170 mX3_jams := Or.inl (vU_mem 664 (by decide +kernel) rfl)
theorem ln_X3_113 : okL RX3 113 mX3_isJam := Or.inl (vU_mem 668 (by decide +kernel) rfl)
theorem ln_X5_173 : okL RX5 173 mX3_leastJam := Or.inl (vU_mem 672 (by decide +kernel) rfl)
theorem ln_L_86 : okL RL 86 mX5_kept := Or.inl (vU_mem 676 (by decide +kernel) rfl)
theorem ln_X5_176 : okL RX5 176 mX4_states := Or.inl (vU_mem 680 (by decide +kernel) rfl)
theorem ln_X5_179 : okL RX5 179 mX5_isSame := Or.inl (vU_mem 684 (by decide +kernel) rfl)
theorem ln_X5_301 : okL RX5 301 mX5_sumOf := Or.inl (vU_mem 688 (by decide +kernel) rfl)
theorem ln_L_90 : okL RL 90 mX5_cut := Or.inl (vU_mem 691 (by decide +kernel) rfl)
theorem ln_X5_188 : okL RX5 188 mX3_learnDrawer := Or.inl (vU_mem 695 (by decide +kernel) rfl)
theorem ln_L_94 : okL RL 94 mX5_tie := Or.inl (vU_mem 696 (by decide +kernel) rfl)
theorem ln_X5_192 : okL RX5 192 mX2_isFull := Or.inl (vU_mem 700 (by decide +kernel) rfl)
theorem ln_X5_196 : okL RX5 196 mX5_openedWith := Or.inl (vU_mem 701 (by decide +kernel) rfl)
theorem ln_X5_207 : okL RX5 207 mX3_tied := Or.inl (vU_mem 705 (by decide +kernel) rfl)
theorem ln_X5_278 : okL RX5 278 mX3_everOpen := Or.inl (vU_mem 709 (by decide +kernel) rfl)
theorem ln_X5_281 : okL RX5 281 mJ6_bitCount_0f7a4 := Or.inl (vU_mem 713 (by decide +kernel) rfl)
theorem ln_L_98 : okL RL 98 mX5_day := Or.inl (vU_mem 719 (by decide +kernel) rfl)
theorem ln_X5_211 : okL RX5 211 mX0_run := Or.inl (vU_mem 723 (by decide +kernel) rfl)
theorem ln_X0_24 : okL RX0 24 mX2_size := Or.inl (vU_mem 727 (by decide +kernel) rfl)
theorem ln_X0_30 : okL RX0 30 mX2_at := Or.inl (vU_mem 728 (by decide +kernel) rfl)
theorem ln_X0_34 : okL RX0 34 mX4_drawersWith := Or.inl (vU_mem 729 (by decide +kernel) rfl)
theorem ln_X0_37 : okL RX0 37 mX0_exchanged := Or.inl (vU_mem 730 (by decide +kernel) rfl)
theorem ln_X0_41 : okL RX0 41 mX3_begin := Or.inl (vU_mem 733 (by decide +kernel) rfl)
theorem ln_X0_46 : okL RX0 46 mX3_nearestOpen := Or.inl (vU_mem 734 (by decide +kernel) rfl)
theorem ln_X3_108 : okL RX3 108 mJ6_numberOfTrailingZeros_0f7a4 := Or.inl (vU_mem 738 (by decide +kernel) rfl)
theorem ln_L_102 : okL RL 102 mX5_laid := Or.inl (vU_mem 742 (by decide +kernel) rfl)
theorem ln_X5_224 : okL RX5 224 mX0_isBetterThan := Or.inl (vU_mem 746 (by decide +kernel) rfl)
theorem ln_X5_228 : okL RX5 228 mX0_copyFrom := Or.inl (vU_mem 750 (by decide +kernel) rfl)
theorem ln_L_106 : okL RL 106 mX5_danger := Or.inl (vU_mem 754 (by decide +kernel) rfl)
theorem ln_X5_231 : okL RX5 231 mX4_isDanger := Or.inl (vU_mem 758 (by decide +kernel) rfl)
theorem ln_L_110 : okL RL 110 mX5_sight := Or.inl (vU_mem 759 (by decide +kernel) rfl)
theorem ln_L_114 : okL RL 114 mX5_none := Or.inl (vU_mem 763 (by decide +kernel) rfl)
theorem ln_L_118 : okL RL 118 mX5_fits := Or.inl (vU_mem 767 (by decide +kernel) rfl)
theorem ln_X5_243 : okL RX5 243 mX4_isSeenBy := Or.inl (vU_mem 771 (by decide +kernel) rfl)
theorem ln_X4_135 : okL RX4 135 mX4_after := Or.inl (vU_mem 775 (by decide +kernel) rfl)
theorem ln_L_122 : okL RL 122 mX5_image := Or.inl (vU_mem 776 (by decide +kernel) rfl)
theorem ln_X5_246 : okL RX5 246 mX5_imageAt := Or.inl (vU_mem 780 (by decide +kernel) rfl)
theorem ln_L_126 : okL RL 126 mX5_from := Or.inl (vU_mem 784 (by decide +kernel) rfl)
theorem ln_L_130 : okL RL 130 mX5_status := Or.inl (vU_mem 788 (by decide +kernel) rfl)
theorem ln_L_134 : okL RL 134 mX5_count := Or.inl (vU_mem 792 (by decide +kernel) rfl)
theorem ln_X5_250 : okL RX5 250 mX5_countOf := Or.inl (vU_mem 796 (by decide +kernel) rfl)
theorem ln_L_138 : okL RL 138 mX5_digest := Or.inl (vU_mem 800 (by decide +kernel) rfl)
theorem ln_X5_257 : okL RX5 257 mX4_hasCatch := Or.inl (vU_mem 806 (by decide +kernel) rfl)
theorem ln_L_12 : okL RL 12 mX6_init := Or.inl (vU_mem 809 (by decide +kernel) rfl)
theorem ln_X6_44 : okL RX6 44 mX6_begins := Or.inl (vU_mem 813 (by decide +kernel) rfl)
theorem ln_L_17 : okL RL 17 mX6_wall := Or.inl (vU_mem 879 (by decide +kernel) rfl)
theorem ln_X6_56 : okL RX6 56 mX6_in := Or.inl (vU_mem 885 (by decide +kernel) rfl)
theorem ln_X6_79 : okL RX6 79 mX6_bad := Or.inl (vU_mem 888 (by decide +kernel) rfl)
theorem ln_X6_52 : okL RX6 52 mX6_refuses := Or.inl (vU_mem 892 (by decide +kernel) rfl)
theorem ln_L_22 : okL RL 22 mX6_cord := Or.inl (vU_mem 896 (by decide +kernel) rfl)
theorem ln_X6_83 : okL RX6 83 mX6_isDrawer := Or.inl (vU_mem 900 (by decide +kernel) rfl)
theorem ln_X6_91 : okL RX6 91 mX6_full := Or.inl (vU_mem 906 (by decide +kernel) rfl)
theorem ln_X6_94 : okL RX6 94 mX6_ties := Or.inl (vU_mem 910 (by decide +kernel) rfl)
theorem ln_L_27 : okL RL 27 mX6_caught := Or.inl (vU_mem 914 (by decide +kernel) rfl)
theorem ln_X6_98 : okL RX6 98 mX6_no := Or.inl (vU_mem 918 (by decide +kernel) rfl)
theorem ln_L_32 : okL RL 32 mX6_good := Or.inl (vU_mem 922 (by decide +kernel) rfl)
theorem ln_L_36 : okL RL 36 mX6_put := Or.inl (vU_mem 927 (by decide +kernel) rfl)
theorem ln_L_40 : okL RL 40 mX6_order := Or.inl (vU_mem 932 (by decide +kernel) rfl)
theorem ln_L_47 : okL RL 47 mX6_type := Or.inl (vU_mem 936 (by decide +kernel) rfl)
theorem ln_L_52 : okL RL 52 mX6_clear := Or.inl (vU_mem 942 (by decide +kernel) rfl)
theorem ln_L_56 : okL RL 56 mX6_read := Or.inl (vU_mem 946 (by decide +kernel) rfl)
theorem ln_X6_169 : okL RX6 169 mX6_reads := Or.inl (vU_mem 950 (by decide +kernel) rfl)
theorem ln_X6_149 : okL RX6 149 mX6_scans := Or.inl (vU_mem 954 (by decide +kernel) rfl)
theorem ln_X6_126 : okL RX6 126 mX6_isAt := Or.inl (vU_mem 958 (by decide +kernel) rfl)
theorem ln_X6_139 : okL RX6 139 mX6_verbOf := Or.inl (vU_mem 964 (by decide +kernel) rfl)
theorem ln_X6_173 : okL RX6 173 mX6_tellsItem := Or.inl (vU_mem 972 (by decide +kernel) rfl)
theorem ln_X6_152 : okL RX6 152 mX6_wall := Or.inl (vU_mem 976 (by decide +kernel) rfl)
theorem ln_X6_155 : okL RX6 155 mX6_cord := Or.inl (vU_mem 977 (by decide +kernel) rfl)
theorem ln_X6_159 : okL RX6 159 mX6_caught := Or.inl (vU_mem 978 (by decide +kernel) rfl)
theorem ln_X6_163 : okL RX6 163 mX6_good := Or.inl (vU_mem 979 (by decide +kernel) rfl)
theorem ln_X6_166 : okL RX6 166 mX6_order := Or.inl (vU_mem 980 (by decide +kernel) rfl)
theorem ln_L_60 : okL RL 60 mX6_pull := Or.inl (vU_mem 981 (by decide +kernel) rfl)
theorem ln_X6_176 : okL RX6 176 mX6_allCords := Or.inl (vU_mem 985 (by decide +kernel) rfl)
theorem ln_X6_179 : okL RX6 179 mX6_pulled := Or.inl (vU_mem 989 (by decide +kernel) rfl)
theorem ln_X6_67 : okL RX6 67 mX6_isBeside := Or.inl (vU_mem 993 (by decide +kernel) rfl)
theorem ln_X6_64 : okL RX6 64 mX6_outIn := Or.inl (vU_mem 997 (by decide +kernel) rfl)
theorem ln_X6_60 : okL RX6 60 mX6_power := Or.inl (vU_mem 1000 (by decide +kernel) rfl)
theorem ln_X6_71 : okL RX6 71 mX6_amount := Or.inl (vU_mem 1003 (by decide +kernel) rfl)
theorem ln_L_64 : okL RL 64 mX6_undo := Or.inl (vU_mem 1007 (by decide +kernel) rfl)
theorem ln_L_68 : okL RL 68 mX6_behind := Or.inl (vU_mem 1011 (by decide +kernel) rfl)
theorem ln_X6_186 : okL RX6 186 mX6_isState := Or.inl (vU_mem 1015 (by decide +kernel) rfl)
theorem ln_X6_183 : okL RX6 183 mX6_states := Or.inl (vU_mem 1019 (by decide +kernel) rfl)
theorem ln_L_72 : okL RL 72 mX6_out := Or.inl (vU_mem 1023 (by decide +kernel) rfl)
theorem ln_L_77 : okL RL 77 mX6_pulls := Or.inl (vU_mem 1027 (by decide +kernel) rfl)
theorem ln_X6_206 : okL RX6 206 mX6_rows := Or.inl (vU_mem 1031 (by decide +kernel) rfl)
theorem ln_X6_196 : okL RX6 196 mX6_lays := Or.inl (vU_mem 1035 (by decide +kernel) rfl)
theorem ln_X6_199 : okL RX6 199 mX6_reckons := Or.inl (vU_mem 1039 (by decide +kernel) rfl)
theorem ln_X6_189 : okL RX6 189 mX6_isDanger := Or.inl (vU_mem 1043 (by decide +kernel) rfl)
theorem ln_X6_192 : okL RX6 192 mX6_isEnd := Or.inl (vU_mem 1047 (by decide +kernel) rfl)
theorem ln_X6_203 : okL RX6 203 mX6_next := Or.inl (vU_mem 1051 (by decide +kernel) rfl)
theorem ln_L_81 : okL RL 81 mX6_safe := Or.inl (vU_mem 1055 (by decide +kernel) rfl)
theorem ln_L_85 : okL RL 85 mX6_reach := Or.inl (vU_mem 1059 (by decide +kernel) rfl)
theorem ln_X6_213 : okL RX6 213 mX6_goes := Or.inl (vU_mem 1063 (by decide +kernel) rfl)
theorem ln_L_89 : okL RL 89 mX6_kept := Or.inl (vU_mem 1067 (by decide +kernel) rfl)
theorem ln_X6_216 : okL RX6 216 mX6_sumBy := Or.inl (vU_mem 1071 (by decide +kernel) rfl)
theorem ln_L_93 : okL RL 93 mX6_cut := Or.inl (vU_mem 1075 (by decide +kernel) rfl)
theorem ln_L_97 : okL RL 97 mX6_tie := Or.inl (vU_mem 1079 (by decide +kernel) rfl)
theorem ln_X6_219 : okL RX6 219 mX6_opens := Or.inl (vU_mem 1083 (by decide +kernel) rfl)
theorem ln_L_101 : okL RL 101 mX6_day := Or.inl (vU_mem 1087 (by decide +kernel) rfl)
theorem ln_X6_225 : okL RX6 225 mX6_days := Or.inl (vU_mem 1091 (by decide +kernel) rfl)
theorem ln_L_105 : okL RL 105 mX6_laid := Or.inl (vU_mem 1095 (by decide +kernel) rfl)
theorem ln_X6_228 : okL RX6 228 mX6_swaps := Or.inl (vU_mem 1099 (by decide +kernel) rfl)
theorem ln_L_109 : okL RL 109 mX6_danger := Or.inl (vU_mem 1103 (by decide +kernel) rfl)
theorem ln_L_113 : okL RL 113 mX6_sight := Or.inl (vU_mem 1107 (by decide +kernel) rfl)
theorem ln_L_117 : okL RL 117 mX6_none := Or.inl (vU_mem 1111 (by decide +kernel) rfl)
theorem ln_L_121 : okL RL 121 mX6_fits := Or.inl (vU_mem 1115 (by decide +kernel) rfl)
theorem ln_L_125 : okL RL 125 mX6_image := Or.inl (vU_mem 1119 (by decide +kernel) rfl)
theorem ln_L_129 : okL RL 129 mX6_from := Or.inl (vU_mem 1123 (by decide +kernel) rfl)
theorem ln_L_133 : okL RL 133 mX6_status := Or.inl (vU_mem 1127 (by decide +kernel) rfl)
theorem ln_L_137 : okL RL 137 mX6_count := Or.inl (vU_mem 1131 (by decide +kernel) rfl)
theorem ln_X6_232 : okL RX6 232 mX6_countOf := Or.inl (vU_mem 1135 (by decide +kernel) rfl)
theorem ln_L_142 : okL RL 142 mX6_digest := Or.inl (vU_mem 1139 (by decide +kernel) rfl)
theorem ln_X6_239 : okL RX6 239 mX6_mixed := Or.inl (vU_mem 1145 (by decide +kernel) rfl)
theorem kn_L : Cond.initialized RL ∈ vU := vU_mem 48 (by decide +kernel) rfl
theorem kn_X5 : Cond.initialized RX5 ∈ vU := vU_mem 49 (by decide +kernel) rfl
theorem kn_X4 : Cond.initialized RX4 ∈ vU := vU_mem 50 (by decide +kernel) rfl
theorem kn_X2 : Cond.initialized RX2 ∈ vU := vU_mem 51 (by decide +kernel) rfl
theorem kn_J9 : Cond.initialized RJ9 ∈ vU := vU_mem 52 (by decide +kernel) rfl
theorem kn_X1 : Cond.initialized RX1 ∈ vU := vU_mem 53 (by decide +kernel) rfl
theorem kn_X3 : Cond.initialized RX3 ∈ vU := vU_mem 54 (by decide +kernel) rfl
theorem kn_X0 : Cond.initialized RX0 ∈ vU := vU_mem 55 (by decide +kernel) rfl
theorem kn_X6 : Cond.initialized RX6 ∈ vU := vU_mem 56 (by decide +kernel) rfl
theorem kn_J0 : Cond.initialized RJ0 ∈ vU := vU_mem 57 (by decide +kernel) rfl
theorem kn_J1 : Cond.initialized RJ1 ∈ vU := vU_mem 58 (by decide +kernel) rfl
theorem kn_J3 : Cond.initialized RJ3 ∈ vU := vU_mem 59 (by decide +kernel) rfl
theorem kn_J2 : Cond.initialized RJ2 ∈ vU := vU_mem 60 (by decide +kernel) rfl
theorem kn_J6 : Cond.initialized RJ6 ∈ vU := vU_mem 61 (by decide +kernel) rfl
theorem kl_L_7 : Cond.classLink RL 7 RX5 ∈ vU := vU_mem 62 (by decide +kernel) rfl
theorem ki_X5 : Cond.instantiable RX5 15 ∈ vU := vU_mem 63 (by decide +kernel) rfl
theorem lo_X5_1 : Cond.methodLink RX5 1 Lib.objectInit ∈ vU := vU_mem 67 (by decide +kernel) rfl
theorem lo_inst : Cond.instanceMethod Lib.objectInit ∈ vU := vU_mem 68 (by decide +kernel) rfl
theorem lo_code : Cond.code Lib.objectInit ⟨#[0xb1]⟩ 1 none ∈ vU := vU_mem 69 (by decide +kernel) rfl
theorem kl_X5_7 : Cond.classLink RX5 7 RX4 ∈ vU := vU_mem 70 (by decide +kernel) rfl
theorem ki_X4 : Cond.instantiable RX4 14 ∈ vU := vU_mem 71 (by decide +kernel) rfl
theorem lo_X4_3 : Cond.methodLink RX4 3 Lib.objectInit ∈ vU := vU_mem 75 (by decide +kernel) rfl
theorem kl_X4_27 : Cond.classLink RX4 27 RX2 ∈ vU := vU_mem 76 (by decide +kernel) rfl
theorem ki_X2 : Cond.instantiable RX2 2 ∈ vU := vU_mem 77 (by decide +kernel) rfl
theorem lo_X2_1 : Cond.methodLink RX2 1 Lib.objectInit ∈ vU := vU_mem 81 (by decide +kernel) rfl
theorem ka_int : Cond.arrayClass .int ∈ vU := vU_mem 92 (by decide +kernel) rfl
theorem kl_X5_32 : Cond.classLink RX5 32 RX2 ∈ vU := vU_mem 163 (by decide +kernel) rfl
theorem kl_X5_41 : Cond.classLink RX5 41 RX1 ∈ vU := vU_mem 165 (by decide +kernel) rfl
theorem ki_X1 : Cond.instantiable RX1 5 ∈ vU := vU_mem 166 (by decide +kernel) rfl
theorem lo_X1_3 : Cond.methodLink RX1 3 Lib.objectInit ∈ vU := vU_mem 170 (by decide +kernel) rfl
theorem kl_X1_9 : Cond.classLink RX1 9 RX2 ∈ vU := vU_mem 171 (by decide +kernel) rfl
theorem kl_X5_48 : Cond.classLink RX5 48 RX3 ∈ vU := vU_mem 189 (by decide +kernel) rfl
theorem ki_X3 : Cond.instantiable RX3 11 ∈ vU := vU_mem 190 (by decide +kernel) rfl
theorem lo_X3_3 : Cond.methodLink RX3 3 Lib.objectInit ∈ vU := vU_mem 194 (by decide +kernel) rfl
theorem kl_X3_9 : Cond.classLink RX3 9 RX2 ∈ vU := vU_mem 195 (by decide +kernel) rfl
theorem kl_X5_55 : Cond.classLink RX5 55 RX0 ∈ vU := vU_mem 241 (by decide +kernel) rfl
theorem ki_X0 : Cond.instantiable RX0 2 ∈ vU := vU_mem 242 (by decide +kernel) rfl
theorem lo_X0_3 : Cond.methodLink RX0 3 Lib.objectInit ∈ vU := vU_mem 246 (by decide +kernel) rfl
theorem ka_byte : Cond.arrayClass .byte ∈ vU := vU_mem 513 (by decide +kernel) rfl
theorem ck_J6_265 : Cond.constant RJ6 265 (1431655765 : Int32) ∈ vU := vU_mem 716 (by decide +kernel) rfl
theorem ck_J6_266 : Cond.constant RJ6 266 (858993459 : Int32) ∈ vU := vU_mem 717 (by decide +kernel) rfl
theorem ck_J6_267 : Cond.constant RJ6 267 (252645135 : Int32) ∈ vU := vU_mem 718 (by decide +kernel) rfl
theorem ck_J6_264 : Cond.constant RJ6 264 (65536 : Int32) ∈ vU := vU_mem 741 (by decide +kernel) rfl
theorem cl_X5_253 : Cond.constantLong RX5 253 (761 : Int64) ∈ vU := vU_mem 804 (by decide +kernel) rfl
theorem cl_X5_255 : Cond.constantLong RX5 255 (31 : Int64) ∈ vU := vU_mem 805 (by decide +kernel) rfl
theorem kl_L_10 : Cond.classLink RL 10 RX6 ∈ vU := vU_mem 807 (by decide +kernel) rfl
theorem ki_X6 : Cond.instantiable RX6 20 ∈ vU := vU_mem 808 (by decide +kernel) rfl
theorem lo_X6_1 : Cond.methodLink RX6 1 Lib.objectInit ∈ vU := vU_mem 812 (by decide +kernel) rfl
theorem ka_boolean : Cond.arrayClass .boolean ∈ vU := vU_mem 878 (by decide +kernel) rfl
theorem cl_X6_75 : Cond.constantLong RX6 75 (2 : Int64) ∈ vU := vU_mem 883 (by decide +kernel) rfl
theorem cl_X6_77 : Cond.constantLong RX6 77 (7 : Int64) ∈ vU := vU_mem 884 (by decide +kernel) rfl
theorem cl_X6_87 : Cond.constantLong RX6 87 (5 : Int64) ∈ vU := vU_mem 904 (by decide +kernel) rfl
theorem cl_X6_89 : Cond.constantLong RX6 89 (-2 : Int64) ∈ vU := vU_mem 905 (by decide +kernel) rfl
theorem cl_X6_101 : Cond.constantLong RX6 101 (6 : Int64) ∈ vU := vU_mem 926 (by decide +kernel) rfl
theorem cl_X6_103 : Cond.constantLong RX6 103 (127 : Int64) ∈ vU := vU_mem 931 (by decide +kernel) rfl
theorem cl_X6_105 : Cond.constantLong RX6 105 (8 : Int64) ∈ vU := vU_mem 940 (by decide +kernel) rfl
theorem cl_X6_111 : Cond.constantLong RX6 111 (255 : Int64) ∈ vU := vU_mem 941 (by decide +kernel) rfl
theorem cl_X6_135 : Cond.constantLong RX6 135 (32 : Int64) ∈ vU := vU_mem 962 (by decide +kernel) rfl
theorem cl_X6_137 : Cond.constantLong RX6 137 (97 : Int64) ∈ vU := vU_mem 963 (by decide +kernel) rfl
theorem cl_X6_116 : Cond.constantLong RX6 116 (4900755027 : Int64) ∈ vU := vU_mem 967 (by decide +kernel) rfl
theorem cl_X6_118 : Cond.constantLong RX6 118 (114244 : Int64) ∈ vU := vU_mem 968 (by decide +kernel) rfl
theorem cl_X6_120 : Cond.constantLong RX6 120 (3199080 : Int64) ∈ vU := vU_mem 969 (by decide +kernel) rfl
theorem cl_X6_122 : Cond.constantLong RX6 122 (245220 : Int64) ∈ vU := vU_mem 970 (by decide +kernel) rfl
theorem cl_X6_124 : Cond.constantLong RX6 124 (16322738 : Int64) ∈ vU := vU_mem 971 (by decide +kernel) rfl
theorem cl_X6_237 : Cond.constantLong RX6 237 (761 : Int64) ∈ vU := vU_mem 1143 (by decide +kernel) rfl
theorem cl_X6_235 : Cond.constantLong RX6 235 (31 : Int64) ∈ vU := vU_mem 1144 (by decide +kernel) rfl
theorem cl_L_41 : Cond.constantLong RL 41 (4294967295 : Int64) ∈ vU := vU_mem 1149 (by decide +kernel) rfl
end
section
theorem dJ0_length_8abf5_0 : decode cJ0_length_8abf5 0 = .ok (.aload_n 0, 1) := by decide +kernel
theorem dJ0_length_8abf5_1 : decode cJ0_length_8abf5 1 = .ok (.getfield 9, 3) := by decide +kernel
theorem dJ0_length_8abf5_4 : decode cJ0_length_8abf5 4 = .ok (.arraylength, 1) := by decide +kernel
theorem dJ0_length_8abf5_5 : decode cJ0_length_8abf5 5 = .ok (.aload_n 0, 1) := by decide +kernel
theorem dJ0_length_8abf5_6 : decode cJ0_length_8abf5 6 = .ok (.invokevirtual 335, 3) := by decide +kernel
theorem dJ0_length_8abf5_9 : decode cJ0_length_8abf5 9 = .ok (.ishr, 1) := by decide +kernel
theorem dJ0_length_8abf5_10 : decode cJ0_length_8abf5 10 = .ok (.ireturn, 1) := by decide +kernel
theorem dJ0_charAt_5068e_0 : decode cJ0_charAt_5068e 0 = .ok (.aload_n 0, 1) := by decide +kernel
theorem dJ0_charAt_5068e_1 : decode cJ0_charAt_5068e 1 = .ok (.invokevirtual 492, 3) := by decide +kernel
theorem dJ0_charAt_5068e_4 : decode cJ0_charAt_5068e 4 = .ok (.ifCond .eq 12, 3) := by decide +kernel
theorem dJ0_charAt_5068e_7 : decode cJ0_charAt_5068e 7 = .ok (.aload_n 0, 1) := by decide +kernel
theorem dJ0_charAt_5068e_8 : decode cJ0_charAt_5068e 8 = .ok (.getfield 9, 3) := by decide +kernel
theorem dJ0_charAt_5068e_11 : decode cJ0_charAt_5068e 11 = .ok (.iload_n 1, 1) := by decide +kernel
theorem dJ0_charAt_5068e_12 : decode cJ0_charAt_5068e 12 = .ok (.invokestatic 495, 3) := by decide +kernel
theorem dJ0_charAt_5068e_15 : decode cJ0_charAt_5068e 15 = .ok (.ireturn, 1) := by decide +kernel
theorem dJ0_charAt_5068e_16 : decode cJ0_charAt_5068e 16 = .ok (.aload_n 0, 1) := by decide +kernel
theorem dJ0_charAt_5068e_17 : decode cJ0_charAt_5068e 17 = .ok (.getfield 9, 3) := by decide +kernel
theorem dJ0_charAt_5068e_20 : decode cJ0_charAt_5068e 20 = .ok (.iload_n 1, 1) := by decide +kernel
theorem dJ0_charAt_5068e_21 : decode cJ0_charAt_5068e 21 = .ok (.invokestatic 498, 3) := by decide +kernel
theorem dJ0_charAt_5068e_24 : decode cJ0_charAt_5068e 24 = .ok (.ireturn, 1) := by decide +kernel
theorem dJ0_coder_7d493_0 : decode cJ0_coder_7d493 0 = .ok (.getstatic 38, 3) := by decide +kernel
theorem dJ0_coder_7d493_3 : decode cJ0_coder_7d493 3 = .ok (.ifCond .eq 10, 3) := by decide +kernel
theorem dJ0_coder_7d493_6 : decode cJ0_coder_7d493 6 = .ok (.aload_n 0, 1) := by decide +kernel
theorem dJ0_coder_7d493_7 : decode cJ0_coder_7d493 7 = .ok (.getfield 15, 3) := by decide +kernel
theorem dJ0_coder_7d493_10 : decode cJ0_coder_7d493 10 = .ok (.goto 4, 3) := by decide +kernel
theorem dJ0_coder_7d493_13 : decode cJ0_coder_7d493 13 = .ok (.iconst 1, 1) := by decide +kernel
theorem dJ0_coder_7d493_14 : decode cJ0_coder_7d493 14 = .ok (.ireturn, 1) := by decide +kernel
theorem dJ0_isLatin1_aae02_0 : decode cJ0_isLatin1_aae02 0 = .ok (.getstatic 38, 3) := by decide +kernel
theorem dJ0_isLatin1_aae02_3 : decode cJ0_isLatin1_aae02 3 = .ok (.ifCond .eq 14, 3) := by decide +kernel
theorem dJ0_isLatin1_aae02_6 : decode cJ0_isLatin1_aae02 6 = .ok (.aload_n 0, 1) := by decide +kernel
theorem dJ0_isLatin1_aae02_7 : decode cJ0_isLatin1_aae02 7 = .ok (.getfield 15, 3) := by decide +kernel
theorem dJ0_isLatin1_aae02_10 : decode cJ0_isLatin1_aae02 10 = .ok (.ifCond .ne 7, 3) := by decide +kernel
theorem dJ0_isLatin1_aae02_13 : decode cJ0_isLatin1_aae02 13 = .ok (.iconst 1, 1) := by decide +kernel
theorem dJ0_isLatin1_aae02_14 : decode cJ0_isLatin1_aae02 14 = .ok (.goto 4, 3) := by decide +kernel
theorem dJ0_isLatin1_aae02_17 : decode cJ0_isLatin1_aae02 17 = .ok (.iconst 0, 1) := by decide +kernel
theorem dJ0_isLatin1_aae02_18 : decode cJ0_isLatin1_aae02 18 = .ok (.ireturn, 1) := by decide +kernel
theorem dJ0_checkIndex_df160_0 : decode cJ0_checkIndex_df160 0 = .ok (.iload_n 0, 1) := by decide +kernel
theorem dJ0_checkIndex_df160_1 : decode cJ0_checkIndex_df160 1 = .ok (.iload_n 1, 1) := by decide +kernel
theorem dJ0_checkIndex_df160_2 : decode cJ0_checkIndex_df160 2 = .ok (.getstatic 1053, 3) := by decide +kernel
theorem dJ0_checkIndex_df160_5 : decode cJ0_checkIndex_df160 5 = .ok (.invokestatic 1059, 3) := by decide +kernel
theorem dJ0_checkIndex_df160_8 : decode cJ0_checkIndex_df160 8 = .ok (.pop, 1) := by decide +kernel
theorem dJ0_checkIndex_df160_9 : decode cJ0_checkIndex_df160 9 = .ok (.return_, 1) := by decide +kernel
theorem dJ1_charAt_3b067_0 : decode cJ1_charAt_3b067 0 = .ok (.iload_n 1, 1) := by decide +kernel
theorem dJ1_charAt_3b067_1 : decode cJ1_charAt_3b067 1 = .ok (.aload_n 0, 1) := by decide +kernel
theorem dJ1_charAt_3b067_2 : decode cJ1_charAt_3b067 2 = .ok (.arraylength, 1) := by decide +kernel
theorem dJ1_charAt_3b067_3 : decode cJ1_charAt_3b067 3 = .ok (.invokestatic 9, 3) := by decide +kernel
theorem dJ1_charAt_3b067_6 : decode cJ1_charAt_3b067 6 = .ok (.aload_n 0, 1) := by decide +kernel
theorem dJ1_charAt_3b067_7 : decode cJ1_charAt_3b067 7 = .ok (.iload_n 1, 1) := by decide +kernel
theorem dJ1_charAt_3b067_8 : decode cJ1_charAt_3b067 8 = .ok (.baload, 1) := by decide +kernel
theorem dJ1_charAt_3b067_9 : decode cJ1_charAt_3b067 9 = .ok (.sipush 255, 3) := by decide +kernel
theorem dJ1_charAt_3b067_12 : decode cJ1_charAt_3b067 12 = .ok (.iand, 1) := by decide +kernel
theorem dJ1_charAt_3b067_13 : decode cJ1_charAt_3b067 13 = .ok (.i2c, 1) := by decide +kernel
theorem dJ1_charAt_3b067_14 : decode cJ1_charAt_3b067 14 = .ok (.ireturn, 1) := by decide +kernel
theorem dJ2_getChar_3b067_0 : decode cJ2_getChar_3b067 0 = .ok (.getstatic 44, 3) := by decide +kernel
theorem dJ2_getChar_3b067_3 : decode cJ2_getChar_3b067 3 = .ok (.ifCond .ne 25, 3) := by decide +kernel
theorem dJ2_getChar_3b067_6 : decode cJ2_getChar_3b067 6 = .ok (.iload_n 1, 1) := by decide +kernel
theorem dJ2_getChar_3b067_7 : decode cJ2_getChar_3b067 7 = .ok (.ifCond .lt 11, 3) := by decide +kernel
theorem dJ2_getChar_3b067_10 : decode cJ2_getChar_3b067 10 = .ok (.iload_n 1, 1) := by decide +kernel
theorem dJ2_getChar_3b067_11 : decode cJ2_getChar_3b067 11 = .ok (.aload_n 0, 1) := by decide +kernel
theorem dJ2_getChar_3b067_12 : decode cJ2_getChar_3b067 12 = .ok (.invokestatic 48, 3) := by decide +kernel
theorem dJ2_getChar_3b067_15 : decode cJ2_getChar_3b067 15 = .ok (.if_icmp .lt 13, 3) := by decide +kernel
theorem dJ2_getChar_3b067_18 : decode cJ2_getChar_3b067 18 = .ok (.new 52, 3) := by decide +kernel
theorem dJ2_getChar_3b067_21 : decode cJ2_getChar_3b067 21 = .ok (.dup, 1) := by decide +kernel
theorem dJ2_getChar_3b067_22 : decode cJ2_getChar_3b067 22 = .ok (.ldc 54, 2) := by decide +kernel
theorem dJ2_getChar_3b067_24 : decode cJ2_getChar_3b067 24 = .ok (.invokespecial 56, 3) := by decide +kernel
theorem dJ2_getChar_3b067_27 : decode cJ2_getChar_3b067 27 = .ok (.athrow, 1) := by decide +kernel
theorem dJ2_getChar_3b067_28 : decode cJ2_getChar_3b067 28 = .ok (.iload_n 1, 1) := by decide +kernel
theorem dJ2_getChar_3b067_29 : decode cJ2_getChar_3b067 29 = .ok (.iconst 1, 1) := by decide +kernel
theorem dJ2_getChar_3b067_30 : decode cJ2_getChar_3b067 30 = .ok (.ishl, 1) := by decide +kernel
theorem dJ2_getChar_3b067_31 : decode cJ2_getChar_3b067 31 = .ok (.istore_n 1, 1) := by decide +kernel
theorem dJ2_getChar_3b067_32 : decode cJ2_getChar_3b067 32 = .ok (.aload_n 0, 1) := by decide +kernel
theorem dJ2_getChar_3b067_33 : decode cJ2_getChar_3b067 33 = .ok (.iload_n 1, 1) := by decide +kernel
theorem dJ2_getChar_3b067_34 : decode cJ2_getChar_3b067 34 = .ok (.iinc 1 1, 3) := by decide +kernel
theorem dJ2_getChar_3b067_37 : decode cJ2_getChar_3b067 37 = .ok (.baload, 1) := by decide +kernel
theorem dJ2_getChar_3b067_38 : decode cJ2_getChar_3b067 38 = .ok (.sipush 255, 3) := by decide +kernel
theorem dJ2_getChar_3b067_41 : decode cJ2_getChar_3b067 41 = .ok (.iand, 1) := by decide +kernel
theorem dJ2_getChar_3b067_42 : decode cJ2_getChar_3b067 42 = .ok (.getstatic 59, 3) := by decide +kernel
theorem dJ2_getChar_3b067_45 : decode cJ2_getChar_3b067 45 = .ok (.ishl, 1) := by decide +kernel
theorem dJ2_getChar_3b067_46 : decode cJ2_getChar_3b067 46 = .ok (.aload_n 0, 1) := by decide +kernel
theorem dJ2_getChar_3b067_47 : decode cJ2_getChar_3b067 47 = .ok (.iload_n 1, 1) := by decide +kernel
theorem dJ2_getChar_3b067_48 : decode cJ2_getChar_3b067 48 = .ok (.baload, 1) := by decide +kernel
theorem dJ2_getChar_3b067_49 : decode cJ2_getChar_3b067 49 = .ok (.sipush 255, 3) := by decide +kernel
theorem dJ2_getChar_3b067_52 : decode cJ2_getChar_3b067 52 = .ok (.iand, 1) := by decide +kernel
theorem dJ2_getChar_3b067_53 : decode cJ2_getChar_3b067 53 = .ok (.getstatic 63, 3) := by decide +kernel
theorem dJ2_getChar_3b067_56 : decode cJ2_getChar_3b067 56 = .ok (.ishl, 1) := by decide +kernel
theorem dJ2_getChar_3b067_57 : decode cJ2_getChar_3b067 57 = .ok (.ior, 1) := by decide +kernel
theorem dJ2_getChar_3b067_58 : decode cJ2_getChar_3b067 58 = .ok (.i2c, 1) := by decide +kernel
theorem dJ2_getChar_3b067_59 : decode cJ2_getChar_3b067 59 = .ok (.ireturn, 1) := by decide +kernel
theorem dJ2_length_9d52b_0 : decode cJ2_length_9d52b 0 = .ok (.aload_n 0, 1) := by decide +kernel
theorem dJ2_length_9d52b_1 : decode cJ2_length_9d52b 1 = .ok (.arraylength, 1) := by decide +kernel
theorem dJ2_length_9d52b_2 : decode cJ2_length_9d52b 2 = .ok (.iconst 1, 1) := by decide +kernel
theorem dJ2_length_9d52b_3 : decode cJ2_length_9d52b 3 = .ok (.ishr, 1) := by decide +kernel
theorem dJ2_length_9d52b_4 : decode cJ2_length_9d52b 4 = .ok (.ireturn, 1) := by decide +kernel
theorem dJ2_charAt_3b067_0 : decode cJ2_charAt_3b067 0 = .ok (.iload_n 1, 1) := by decide +kernel
theorem dJ2_charAt_3b067_1 : decode cJ2_charAt_3b067 1 = .ok (.aload_n 0, 1) := by decide +kernel
theorem dJ2_charAt_3b067_2 : decode cJ2_charAt_3b067 2 = .ok (.invokestatic 67, 3) := by decide +kernel
theorem dJ2_charAt_3b067_5 : decode cJ2_charAt_3b067 5 = .ok (.aload_n 0, 1) := by decide +kernel
theorem dJ2_charAt_3b067_6 : decode cJ2_charAt_3b067 6 = .ok (.iload_n 1, 1) := by decide +kernel
theorem dJ2_charAt_3b067_7 : decode cJ2_charAt_3b067 7 = .ok (.invokestatic 71, 3) := by decide +kernel
theorem dJ2_charAt_3b067_10 : decode cJ2_charAt_3b067 10 = .ok (.ireturn, 1) := by decide +kernel
theorem dJ2_checkIndex_2214a_0 : decode cJ2_checkIndex_2214a 0 = .ok (.iload_n 0, 1) := by decide +kernel
theorem dJ2_checkIndex_2214a_1 : decode cJ2_checkIndex_2214a 1 = .ok (.aload_n 1, 1) := by decide +kernel
theorem dJ2_checkIndex_2214a_2 : decode cJ2_checkIndex_2214a 2 = .ok (.invokestatic 48, 3) := by decide +kernel
theorem dJ2_checkIndex_2214a_5 : decode cJ2_checkIndex_2214a 5 = .ok (.invokestatic 414, 3) := by decide +kernel
theorem dJ2_checkIndex_2214a_8 : decode cJ2_checkIndex_2214a 8 = .ok (.return_, 1) := by decide +kernel
theorem dJ3_checkIndex_8e157_0 : decode cJ3_checkIndex_8e157 0 = .ok (.iload_n 0, 1) := by decide +kernel
theorem dJ3_checkIndex_8e157_1 : decode cJ3_checkIndex_8e157 1 = .ok (.ifCond .lt 8, 3) := by decide +kernel
theorem dJ3_checkIndex_8e157_4 : decode cJ3_checkIndex_8e157 4 = .ok (.iload_n 0, 1) := by decide +kernel
theorem dJ3_checkIndex_8e157_5 : decode cJ3_checkIndex_8e157 5 = .ok (.iload_n 1, 1) := by decide +kernel
theorem dJ3_checkIndex_8e157_6 : decode cJ3_checkIndex_8e157 6 = .ok (.if_icmp .lt 10, 3) := by decide +kernel
theorem dJ3_checkIndex_8e157_9 : decode cJ3_checkIndex_8e157 9 = .ok (.aload_n 2, 1) := by decide +kernel
theorem dJ3_checkIndex_8e157_10 : decode cJ3_checkIndex_8e157 10 = .ok (.iload_n 0, 1) := by decide +kernel
theorem dJ3_checkIndex_8e157_11 : decode cJ3_checkIndex_8e157 11 = .ok (.iload_n 1, 1) := by decide +kernel
theorem dJ3_checkIndex_8e157_12 : decode cJ3_checkIndex_8e157 12 = .ok (.invokestatic 95, 3) := by decide +kernel
theorem dJ3_checkIndex_8e157_15 : decode cJ3_checkIndex_8e157 15 = .ok (.athrow, 1) := by decide +kernel
theorem dJ3_checkIndex_8e157_16 : decode cJ3_checkIndex_8e157 16 = .ok (.iload_n 0, 1) := by decide +kernel
theorem dJ3_checkIndex_8e157_17 : decode cJ3_checkIndex_8e157 17 = .ok (.ireturn, 1) := by decide +kernel
theorem dJ6_numberOfTrailingZeros_0f7a4_0 : decode cJ6_numberOfTrailingZeros_0f7a4 0 = .ok (.iload_n 0, 1) := by decide +kernel
theorem dJ6_numberOfTrailingZeros_0f7a4_1 : decode cJ6_numberOfTrailingZeros_0f7a4 1 = .ok (.iconst (-1), 1) := by decide +kernel
theorem dJ6_numberOfTrailingZeros_0f7a4_2 : decode cJ6_numberOfTrailingZeros_0f7a4 2 = .ok (.ixor, 1) := by decide +kernel
theorem dJ6_numberOfTrailingZeros_0f7a4_3 : decode cJ6_numberOfTrailingZeros_0f7a4 3 = .ok (.iload_n 0, 1) := by decide +kernel
theorem dJ6_numberOfTrailingZeros_0f7a4_4 : decode cJ6_numberOfTrailingZeros_0f7a4 4 = .ok (.iconst 1, 1) := by decide +kernel
theorem dJ6_numberOfTrailingZeros_0f7a4_5 : decode cJ6_numberOfTrailingZeros_0f7a4 5 = .ok (.isub, 1) := by decide +kernel
theorem dJ6_numberOfTrailingZeros_0f7a4_6 : decode cJ6_numberOfTrailingZeros_0f7a4 6 = .ok (.iand, 1) := by decide +kernel
theorem dJ6_numberOfTrailingZeros_0f7a4_7 : decode cJ6_numberOfTrailingZeros_0f7a4 7 = .ok (.istore_n 0, 1) := by decide +kernel
theorem dJ6_numberOfTrailingZeros_0f7a4_8 : decode cJ6_numberOfTrailingZeros_0f7a4 8 = .ok (.iload_n 0, 1) := by decide +kernel
theorem dJ6_numberOfTrailingZeros_0f7a4_9 : decode cJ6_numberOfTrailingZeros_0f7a4 9 = .ok (.ifCond .gt 8, 3) := by decide +kernel
theorem dJ6_numberOfTrailingZeros_0f7a4_12 : decode cJ6_numberOfTrailingZeros_0f7a4 12 = .ok (.iload_n 0, 1) := by decide +kernel
theorem dJ6_numberOfTrailingZeros_0f7a4_13 : decode cJ6_numberOfTrailingZeros_0f7a4 13 = .ok (.bipush 32, 2) := by decide +kernel
theorem dJ6_numberOfTrailingZeros_0f7a4_15 : decode cJ6_numberOfTrailingZeros_0f7a4 15 = .ok (.iand, 1) := by decide +kernel
theorem dJ6_numberOfTrailingZeros_0f7a4_16 : decode cJ6_numberOfTrailingZeros_0f7a4 16 = .ok (.ireturn, 1) := by decide +kernel
theorem dJ6_numberOfTrailingZeros_0f7a4_17 : decode cJ6_numberOfTrailingZeros_0f7a4 17 = .ok (.iconst 1, 1) := by decide +kernel
theorem dJ6_numberOfTrailingZeros_0f7a4_18 : decode cJ6_numberOfTrailingZeros_0f7a4 18 = .ok (.istore_n 1, 1) := by decide +kernel
theorem dJ6_numberOfTrailingZeros_0f7a4_19 : decode cJ6_numberOfTrailingZeros_0f7a4 19 = .ok (.iload_n 0, 1) := by decide +kernel
theorem dJ6_numberOfTrailingZeros_0f7a4_20 : decode cJ6_numberOfTrailingZeros_0f7a4 20 = .ok (.ldc_w 264, 3) := by decide +kernel
theorem dJ6_numberOfTrailingZeros_0f7a4_23 : decode cJ6_numberOfTrailingZeros_0f7a4 23 = .ok (.if_icmp .le 11, 3) := by decide +kernel
theorem dJ6_numberOfTrailingZeros_0f7a4_26 : decode cJ6_numberOfTrailingZeros_0f7a4 26 = .ok (.iinc 1 16, 3) := by decide +kernel
theorem dJ6_numberOfTrailingZeros_0f7a4_29 : decode cJ6_numberOfTrailingZeros_0f7a4 29 = .ok (.iload_n 0, 1) := by decide +kernel
theorem dJ6_numberOfTrailingZeros_0f7a4_30 : decode cJ6_numberOfTrailingZeros_0f7a4 30 = .ok (.bipush 16, 2) := by decide +kernel
theorem dJ6_numberOfTrailingZeros_0f7a4_32 : decode cJ6_numberOfTrailingZeros_0f7a4 32 = .ok (.iushr, 1) := by decide +kernel
theorem dJ6_numberOfTrailingZeros_0f7a4_33 : decode cJ6_numberOfTrailingZeros_0f7a4 33 = .ok (.istore_n 0, 1) := by decide +kernel
theorem dJ6_numberOfTrailingZeros_0f7a4_34 : decode cJ6_numberOfTrailingZeros_0f7a4 34 = .ok (.iload_n 0, 1) := by decide +kernel
theorem dJ6_numberOfTrailingZeros_0f7a4_35 : decode cJ6_numberOfTrailingZeros_0f7a4 35 = .ok (.sipush 256, 3) := by decide +kernel
theorem dJ6_numberOfTrailingZeros_0f7a4_38 : decode cJ6_numberOfTrailingZeros_0f7a4 38 = .ok (.if_icmp .le 11, 3) := by decide +kernel
theorem dJ6_numberOfTrailingZeros_0f7a4_41 : decode cJ6_numberOfTrailingZeros_0f7a4 41 = .ok (.iinc 1 8, 3) := by decide +kernel
theorem dJ6_numberOfTrailingZeros_0f7a4_44 : decode cJ6_numberOfTrailingZeros_0f7a4 44 = .ok (.iload_n 0, 1) := by decide +kernel
theorem dJ6_numberOfTrailingZeros_0f7a4_45 : decode cJ6_numberOfTrailingZeros_0f7a4 45 = .ok (.bipush 8, 2) := by decide +kernel
theorem dJ6_numberOfTrailingZeros_0f7a4_47 : decode cJ6_numberOfTrailingZeros_0f7a4 47 = .ok (.iushr, 1) := by decide +kernel
theorem dJ6_numberOfTrailingZeros_0f7a4_48 : decode cJ6_numberOfTrailingZeros_0f7a4 48 = .ok (.istore_n 0, 1) := by decide +kernel
theorem dJ6_numberOfTrailingZeros_0f7a4_49 : decode cJ6_numberOfTrailingZeros_0f7a4 49 = .ok (.iload_n 0, 1) := by decide +kernel
theorem dJ6_numberOfTrailingZeros_0f7a4_50 : decode cJ6_numberOfTrailingZeros_0f7a4 50 = .ok (.bipush 16, 2) := by decide +kernel
theorem dJ6_numberOfTrailingZeros_0f7a4_52 : decode cJ6_numberOfTrailingZeros_0f7a4 52 = .ok (.if_icmp .le 10, 3) := by decide +kernel
theorem dJ6_numberOfTrailingZeros_0f7a4_55 : decode cJ6_numberOfTrailingZeros_0f7a4 55 = .ok (.iinc 1 4, 3) := by decide +kernel
theorem dJ6_numberOfTrailingZeros_0f7a4_58 : decode cJ6_numberOfTrailingZeros_0f7a4 58 = .ok (.iload_n 0, 1) := by decide +kernel
theorem dJ6_numberOfTrailingZeros_0f7a4_59 : decode cJ6_numberOfTrailingZeros_0f7a4 59 = .ok (.iconst 4, 1) := by decide +kernel
theorem dJ6_numberOfTrailingZeros_0f7a4_60 : decode cJ6_numberOfTrailingZeros_0f7a4 60 = .ok (.iushr, 1) := by decide +kernel
theorem dJ6_numberOfTrailingZeros_0f7a4_61 : decode cJ6_numberOfTrailingZeros_0f7a4 61 = .ok (.istore_n 0, 1) := by decide +kernel
theorem dJ6_numberOfTrailingZeros_0f7a4_62 : decode cJ6_numberOfTrailingZeros_0f7a4 62 = .ok (.iload_n 0, 1) := by decide +kernel
theorem dJ6_numberOfTrailingZeros_0f7a4_63 : decode cJ6_numberOfTrailingZeros_0f7a4 63 = .ok (.iconst 4, 1) := by decide +kernel
theorem dJ6_numberOfTrailingZeros_0f7a4_64 : decode cJ6_numberOfTrailingZeros_0f7a4 64 = .ok (.if_icmp .le 10, 3) := by decide +kernel
theorem dJ6_numberOfTrailingZeros_0f7a4_67 : decode cJ6_numberOfTrailingZeros_0f7a4 67 = .ok (.iinc 1 2, 3) := by decide +kernel
theorem dJ6_numberOfTrailingZeros_0f7a4_70 : decode cJ6_numberOfTrailingZeros_0f7a4 70 = .ok (.iload_n 0, 1) := by decide +kernel
theorem dJ6_numberOfTrailingZeros_0f7a4_71 : decode cJ6_numberOfTrailingZeros_0f7a4 71 = .ok (.iconst 2, 1) := by decide +kernel
theorem dJ6_numberOfTrailingZeros_0f7a4_72 : decode cJ6_numberOfTrailingZeros_0f7a4 72 = .ok (.iushr, 1) := by decide +kernel
theorem dJ6_numberOfTrailingZeros_0f7a4_73 : decode cJ6_numberOfTrailingZeros_0f7a4 73 = .ok (.istore_n 0, 1) := by decide +kernel
theorem dJ6_numberOfTrailingZeros_0f7a4_74 : decode cJ6_numberOfTrailingZeros_0f7a4 74 = .ok (.iload_n 1, 1) := by decide +kernel
theorem dJ6_numberOfTrailingZeros_0f7a4_75 : decode cJ6_numberOfTrailingZeros_0f7a4 75 = .ok (.iload_n 0, 1) := by decide +kernel
theorem dJ6_numberOfTrailingZeros_0f7a4_76 : decode cJ6_numberOfTrailingZeros_0f7a4 76 = .ok (.iconst 1, 1) := by decide +kernel
theorem dJ6_numberOfTrailingZeros_0f7a4_77 : decode cJ6_numberOfTrailingZeros_0f7a4 77 = .ok (.iushr, 1) := by decide +kernel
theorem dJ6_numberOfTrailingZeros_0f7a4_78 : decode cJ6_numberOfTrailingZeros_0f7a4 78 = .ok (.iadd, 1) := by decide +kernel
theorem dJ6_numberOfTrailingZeros_0f7a4_79 : decode cJ6_numberOfTrailingZeros_0f7a4 79 = .ok (.ireturn, 1) := by decide +kernel
theorem dJ6_bitCount_0f7a4_0 : decode cJ6_bitCount_0f7a4 0 = .ok (.iload_n 0, 1) := by decide +kernel
theorem dJ6_bitCount_0f7a4_1 : decode cJ6_bitCount_0f7a4 1 = .ok (.iload_n 0, 1) := by decide +kernel
theorem dJ6_bitCount_0f7a4_2 : decode cJ6_bitCount_0f7a4 2 = .ok (.iconst 1, 1) := by decide +kernel
theorem dJ6_bitCount_0f7a4_3 : decode cJ6_bitCount_0f7a4 3 = .ok (.iushr, 1) := by decide +kernel
theorem dJ6_bitCount_0f7a4_4 : decode cJ6_bitCount_0f7a4 4 = .ok (.ldc_w 265, 3) := by decide +kernel
theorem dJ6_bitCount_0f7a4_7 : decode cJ6_bitCount_0f7a4 7 = .ok (.iand, 1) := by decide +kernel
theorem dJ6_bitCount_0f7a4_8 : decode cJ6_bitCount_0f7a4 8 = .ok (.isub, 1) := by decide +kernel
theorem dJ6_bitCount_0f7a4_9 : decode cJ6_bitCount_0f7a4 9 = .ok (.istore_n 0, 1) := by decide +kernel
theorem dJ6_bitCount_0f7a4_10 : decode cJ6_bitCount_0f7a4 10 = .ok (.iload_n 0, 1) := by decide +kernel
theorem dJ6_bitCount_0f7a4_11 : decode cJ6_bitCount_0f7a4 11 = .ok (.ldc_w 266, 3) := by decide +kernel
theorem dJ6_bitCount_0f7a4_14 : decode cJ6_bitCount_0f7a4 14 = .ok (.iand, 1) := by decide +kernel
theorem dJ6_bitCount_0f7a4_15 : decode cJ6_bitCount_0f7a4 15 = .ok (.iload_n 0, 1) := by decide +kernel
theorem dJ6_bitCount_0f7a4_16 : decode cJ6_bitCount_0f7a4 16 = .ok (.iconst 2, 1) := by decide +kernel
theorem dJ6_bitCount_0f7a4_17 : decode cJ6_bitCount_0f7a4 17 = .ok (.iushr, 1) := by decide +kernel
theorem dJ6_bitCount_0f7a4_18 : decode cJ6_bitCount_0f7a4 18 = .ok (.ldc_w 266, 3) := by decide +kernel
theorem dJ6_bitCount_0f7a4_21 : decode cJ6_bitCount_0f7a4 21 = .ok (.iand, 1) := by decide +kernel
theorem dJ6_bitCount_0f7a4_22 : decode cJ6_bitCount_0f7a4 22 = .ok (.iadd, 1) := by decide +kernel
theorem dJ6_bitCount_0f7a4_23 : decode cJ6_bitCount_0f7a4 23 = .ok (.istore_n 0, 1) := by decide +kernel
theorem dJ6_bitCount_0f7a4_24 : decode cJ6_bitCount_0f7a4 24 = .ok (.iload_n 0, 1) := by decide +kernel
theorem dJ6_bitCount_0f7a4_25 : decode cJ6_bitCount_0f7a4 25 = .ok (.iload_n 0, 1) := by decide +kernel
theorem dJ6_bitCount_0f7a4_26 : decode cJ6_bitCount_0f7a4 26 = .ok (.iconst 4, 1) := by decide +kernel
theorem dJ6_bitCount_0f7a4_27 : decode cJ6_bitCount_0f7a4 27 = .ok (.iushr, 1) := by decide +kernel
theorem dJ6_bitCount_0f7a4_28 : decode cJ6_bitCount_0f7a4 28 = .ok (.iadd, 1) := by decide +kernel
theorem dJ6_bitCount_0f7a4_29 : decode cJ6_bitCount_0f7a4 29 = .ok (.ldc_w 267, 3) := by decide +kernel
theorem dJ6_bitCount_0f7a4_32 : decode cJ6_bitCount_0f7a4 32 = .ok (.iand, 1) := by decide +kernel
theorem dJ6_bitCount_0f7a4_33 : decode cJ6_bitCount_0f7a4 33 = .ok (.istore_n 0, 1) := by decide +kernel
theorem dJ6_bitCount_0f7a4_34 : decode cJ6_bitCount_0f7a4 34 = .ok (.iload_n 0, 1) := by decide +kernel
theorem dJ6_bitCount_0f7a4_35 : decode cJ6_bitCount_0f7a4 35 = .ok (.iload_n 0, 1) := by decide +kernel
theorem dJ6_bitCount_0f7a4_36 : decode cJ6_bitCount_0f7a4 36 = .ok (.bipush 8, 2) := by decide +kernel
theorem dJ6_bitCount_0f7a4_38 : decode cJ6_bitCount_0f7a4 38 = .ok (.iushr, 1) := by decide +kernel
theorem dJ6_bitCount_0f7a4_39 : decode cJ6_bitCount_0f7a4 39 = .ok (.iadd, 1) := by decide +kernel
theorem dJ6_bitCount_0f7a4_40 : decode cJ6_bitCount_0f7a4 40 = .ok (.istore_n 0, 1) := by decide +kernel
theorem dJ6_bitCount_0f7a4_41 : decode cJ6_bitCount_0f7a4 41 = .ok (.iload_n 0, 1) := by decide +kernel
theorem dJ6_bitCount_0f7a4_42 : decode cJ6_bitCount_0f7a4 42 = .ok (.iload_n 0, 1) := by decide +kernel
theorem dJ6_bitCount_0f7a4_43 : decode cJ6_bitCount_0f7a4 43 = .ok (.bipush 16, 2) := by decide +kernel
theorem dJ6_bitCount_0f7a4_45 : decode cJ6_bitCount_0f7a4 45 = .ok (.iushr, 1) := by decide +kernel
theorem dJ6_bitCount_0f7a4_46 : decode cJ6_bitCount_0f7a4 46 = .ok (.iadd, 1) := by decide +kernel
theorem dJ6_bitCount_0f7a4_47 : decode cJ6_bitCount_0f7a4 47 = .ok (.istore_n 0, 1) := by decide +kernel
theorem dJ6_bitCount_0f7a4_48 : decode cJ6_bitCount_0f7a4 48 = .ok (.iload_n 0, 1) := by decide +kernel
theorem dJ6_bitCount_0f7a4_49 : decode cJ6_bitCount_0f7a4 49 = .ok (.bipush 63, 2) := by decide +kernel
theorem dJ6_bitCount_0f7a4_51 : decode cJ6_bitCount_0f7a4 51 = .ok (.iand, 1) := by decide +kernel
theorem dJ6_bitCount_0f7a4_52 : decode cJ6_bitCount_0f7a4 52 = .ok (.ireturn, 1) := by decide +kernel
theorem dJ9_max_7cf53_0 : decode cJ9_max_7cf53 0 = .ok (.iload_n 0, 1) := by decide +kernel
theorem dJ9_max_7cf53_1 : decode cJ9_max_7cf53 1 = .ok (.iload_n 1, 1) := by decide +kernel
theorem dJ9_max_7cf53_2 : decode cJ9_max_7cf53 2 = .ok (.if_icmp .lt 7, 3) := by decide +kernel
theorem dJ9_max_7cf53_5 : decode cJ9_max_7cf53 5 = .ok (.iload_n 0, 1) := by decide +kernel
theorem dJ9_max_7cf53_6 : decode cJ9_max_7cf53 6 = .ok (.goto 4, 3) := by decide +kernel
theorem dJ9_max_7cf53_9 : decode cJ9_max_7cf53 9 = .ok (.iload_n 1, 1) := by decide +kernel
theorem dJ9_max_7cf53_10 : decode cJ9_max_7cf53 10 = .ok (.ireturn, 1) := by decide +kernel
theorem dJ9_min_7cf53_0 : decode cJ9_min_7cf53 0 = .ok (.iload_n 0, 1) := by decide +kernel
theorem dJ9_min_7cf53_1 : decode cJ9_min_7cf53 1 = .ok (.iload_n 1, 1) := by decide +kernel
theorem dJ9_min_7cf53_2 : decode cJ9_min_7cf53 2 = .ok (.if_icmp .gt 7, 3) := by decide +kernel
theorem dJ9_min_7cf53_5 : decode cJ9_min_7cf53 5 = .ok (.iload_n 0, 1) := by decide +kernel
theorem dJ9_min_7cf53_6 : decode cJ9_min_7cf53 6 = .ok (.goto 4, 3) := by decide +kernel
theorem dJ9_min_7cf53_9 : decode cJ9_min_7cf53 9 = .ok (.iload_n 1, 1) := by decide +kernel
theorem dJ9_min_7cf53_10 : decode cJ9_min_7cf53 10 = .ok (.ireturn, 1) := by decide +kernel
theorem dX0_init_0 : decode cX0_init 0 = .ok (.aload_n 0, 1) := by decide +kernel
theorem dX0_init_1 : decode cX0_init 1 = .ok (.invokespecial 3, 3) := by decide +kernel
theorem dX0_init_4 : decode cX0_init 4 = .ok (.aload_n 0, 1) := by decide +kernel
theorem dX0_init_5 : decode cX0_init 5 = .ok (.iconst 0, 1) := by decide +kernel
theorem dX0_init_6 : decode cX0_init 6 = .ok (.putfield 9, 3) := by decide +kernel
theorem dX0_init_9 : decode cX0_init 9 = .ok (.aload_n 0, 1) := by decide +kernel
theorem dX0_init_10 : decode cX0_init 10 = .ok (.iconst 0, 1) := by decide +kernel
theorem dX0_init_11 : decode cX0_init 11 = .ok (.putfield 15, 3) := by decide +kernel
theorem dX0_init_14 : decode cX0_init 14 = .ok (.return_, 1) := by decide +kernel
theorem dX0_run_0 : decode cX0_run 0 = .ok (.aload_n 0, 1) := by decide +kernel
theorem dX0_run_1 : decode cX0_run 1 = .ok (.iconst 0, 1) := by decide +kernel
theorem dX0_run_2 : decode cX0_run 2 = .ok (.putfield 9, 3) := by decide +kernel
theorem dX0_run_5 : decode cX0_run 5 = .ok (.aload_n 0, 1) := by decide +kernel
theorem dX0_run_6 : decode cX0_run 6 = .ok (.iconst 0, 1) := by decide +kernel
theorem dX0_run_7 : decode cX0_run 7 = .ok (.putfield 15, 3) := by decide +kernel
theorem dX0_run_10 : decode cX0_run 10 = .ok (.iconst 0, 1) := by decide +kernel
theorem dX0_run_11 : decode cX0_run 11 = .ok (.istore 5, 2) := by decide +kernel
theorem dX0_run_13 : decode cX0_run 13 = .ok (.iconst 0, 1) := by decide +kernel
theorem dX0_run_14 : decode cX0_run 14 = .ok (.istore 6, 2) := by decide +kernel
theorem dX0_run_16 : decode cX0_run 16 = .ok (.iload 6, 2) := by decide +kernel
theorem dX0_run_18 : decode cX0_run 18 = .ok (.aload_n 1, 1) := by decide +kernel
theorem dX0_run_19 : decode cX0_run 19 = .ok (.getfield 18, 3) := by decide +kernel
theorem dX0_run_22 : decode cX0_run 22 = .ok (.invokevirtual 24, 3) := by decide +kernel
theorem dX0_run_25 : decode cX0_run 25 = .ok (.if_icmp .ge 81, 3) := by decide +kernel
theorem dX0_run_28 : decode cX0_run 28 = .ok (.aload_n 1, 1) := by decide +kernel
theorem dX0_run_29 : decode cX0_run 29 = .ok (.iconst 1, 1) := by decide +kernel
theorem dX0_run_30 : decode cX0_run 30 = .ok (.aload_n 1, 1) := by decide +kernel
theorem dX0_run_31 : decode cX0_run 31 = .ok (.getfield 18, 3) := by decide +kernel
theorem dX0_run_34 : decode cX0_run 34 = .ok (.iload 6, 2) := by decide +kernel
theorem dX0_run_36 : decode cX0_run 36 = .ok (.invokevirtual 30, 3) := by decide +kernel
theorem dX0_run_39 : decode cX0_run 39 = .ok (.ishl, 1) := by decide +kernel
theorem dX0_run_40 : decode cX0_run 40 = .ok (.invokevirtual 34, 3) := by decide +kernel
theorem dX0_run_43 : decode cX0_run 43 = .ok (.iload_n 3, 1) := by decide +kernel
theorem dX0_run_44 : decode cX0_run 44 = .ok (.iload 4, 2) := by decide +kernel
theorem dX0_run_46 : decode cX0_run 46 = .ok (.invokestatic 37, 3) := by decide +kernel
theorem dX0_run_49 : decode cX0_run 49 = .ok (.istore 7, 2) := by decide +kernel
theorem dX0_run_51 : decode cX0_run 51 = .ok (.aload_n 2, 1) := by decide +kernel
theorem dX0_run_52 : decode cX0_run 52 = .ok (.invokevirtual 41, 3) := by decide +kernel
theorem dX0_run_55 : decode cX0_run 55 = .ok (.aload_n 2, 1) := by decide +kernel
theorem dX0_run_56 : decode cX0_run 56 = .ok (.iload 5, 2) := by decide +kernel
theorem dX0_run_58 : decode cX0_run 58 = .ok (.iload 7, 2) := by decide +kernel
theorem dX0_run_60 : decode cX0_run 60 = .ok (.invokevirtual 46, 3) := by decide +kernel
theorem dX0_run_63 : decode cX0_run 63 = .ok (.istore 5, 2) := by decide +kernel
theorem dX0_run_65 : decode cX0_run 65 = .ok (.iload 5, 2) := by decide +kernel
theorem dX0_run_67 : decode cX0_run 67 = .ok (.iconst (-1), 1) := by decide +kernel
theorem dX0_run_68 : decode cX0_run 68 = .ok (.if_icmp .ne 4, 3) := by decide +kernel
theorem dX0_run_71 : decode cX0_run 71 = .ok (.return_, 1) := by decide +kernel
theorem dX0_run_72 : decode cX0_run 72 = .ok (.aload_n 0, 1) := by decide +kernel
theorem dX0_run_73 : decode cX0_run 73 = .ok (.dup, 1) := by decide +kernel
theorem dX0_run_74 : decode cX0_run 74 = .ok (.getfield 9, 3) := by decide +kernel
theorem dX0_run_77 : decode cX0_run 77 = .ok (.iconst 1, 1) := by decide +kernel
theorem dX0_run_78 : decode cX0_run 78 = .ok (.iadd, 1) := by decide +kernel
theorem dX0_run_79 : decode cX0_run 79 = .ok (.putfield 9, 3) := by decide +kernel
theorem dX0_run_82 : decode cX0_run 82 = .ok (.aload_n 0, 1) := by decide +kernel
theorem dX0_run_83 : decode cX0_run 83 = .ok (.dup, 1) := by decide +kernel
theorem dX0_run_84 : decode cX0_run 84 = .ok (.getfield 15, 3) := by decide +kernel
theorem dX0_run_87 : decode cX0_run 87 = .ok (.aload_n 2, 1) := by decide +kernel
theorem dX0_run_88 : decode cX0_run 88 = .ok (.getfield 50, 3) := by decide +kernel
theorem dX0_run_91 : decode cX0_run 91 = .ok (.iload 5, 2) := by decide +kernel
theorem dX0_run_93 : decode cX0_run 93 = .ok (.invokevirtual 30, 3) := by decide +kernel
theorem dX0_run_96 : decode cX0_run 96 = .ok (.iadd, 1) := by decide +kernel
theorem dX0_run_97 : decode cX0_run 97 = .ok (.putfield 15, 3) := by decide +kernel
theorem dX0_run_100 : decode cX0_run 100 = .ok (.iinc 6 1, 3) := by decide +kernel
theorem dX0_run_103 : decode cX0_run 103 = .ok (.goto (-87), 3) := by decide +kernel
theorem dX0_run_106 : decode cX0_run 106 = .ok (.return_, 1) := by decide +kernel
theorem dX0_exchanged_0 : decode cX0_exchanged 0 = .ok (.iload_n 0, 1) := by decide +kernel
theorem dX0_exchanged_1 : decode cX0_exchanged 1 = .ok (.iload_n 1, 1) := by decide +kernel
theorem dX0_exchanged_2 : decode cX0_exchanged 2 = .ok (.ishr, 1) := by decide +kernel
theorem dX0_exchanged_3 : decode cX0_exchanged 3 = .ok (.iconst 1, 1) := by decide +kernel
theorem dX0_exchanged_4 : decode cX0_exchanged 4 = .ok (.iand, 1) := by decide +kernel
theorem dX0_exchanged_5 : decode cX0_exchanged 5 = .ok (.iload_n 0, 1) := by decide +kernel
theorem dX0_exchanged_6 : decode cX0_exchanged 6 = .ok (.iload_n 2, 1) := by decide +kernel
theorem dX0_exchanged_7 : decode cX0_exchanged 7 = .ok (.ishr, 1) := by decide +kernel
theorem dX0_exchanged_8 : decode cX0_exchanged 8 = .ok (.iconst 1, 1) := by decide +kernel
theorem dX0_exchanged_9 : decode cX0_exchanged 9 = .ok (.iand, 1) := by decide +kernel
theorem dX0_exchanged_10 : decode cX0_exchanged 10 = .ok (.if_icmp .ne 7, 3) := by decide +kernel
theorem dX0_exchanged_13 : decode cX0_exchanged 13 = .ok (.iconst 1, 1) := by decide +kernel
theorem dX0_exchanged_14 : decode cX0_exchanged 14 = .ok (.goto 4, 3) := by decide +kernel
theorem dX0_exchanged_17 : decode cX0_exchanged 17 = .ok (.iconst 0, 1) := by decide +kernel
theorem dX0_exchanged_18 : decode cX0_exchanged 18 = .ok (.istore_n 3, 1) := by decide +kernel
theorem dX0_exchanged_19 : decode cX0_exchanged 19 = .ok (.iload_n 3, 1) := by decide +kernel
theorem dX0_exchanged_20 : decode cX0_exchanged 20 = .ok (.ifCond .eq 7, 3) := by decide +kernel
theorem dX0_exchanged_23 : decode cX0_exchanged 23 = .ok (.iload_n 0, 1) := by decide +kernel
theorem dX0_exchanged_24 : decode cX0_exchanged 24 = .ok (.goto 12, 3) := by decide +kernel
theorem dX0_exchanged_27 : decode cX0_exchanged 27 = .ok (.iload_n 0, 1) := by decide +kernel
theorem dX0_exchanged_28 : decode cX0_exchanged 28 = .ok (.iconst 1, 1) := by decide +kernel
theorem dX0_exchanged_29 : decode cX0_exchanged 29 = .ok (.iload_n 1, 1) := by decide +kernel
theorem dX0_exchanged_30 : decode cX0_exchanged 30 = .ok (.ishl, 1) := by decide +kernel
theorem dX0_exchanged_31 : decode cX0_exchanged 31 = .ok (.iconst 1, 1) := by decide +kernel
theorem dX0_exchanged_32 : decode cX0_exchanged 32 = .ok (.iload_n 2, 1) := by decide +kernel
theorem dX0_exchanged_33 : decode cX0_exchanged 33 = .ok (.ishl, 1) := by decide +kernel
theorem dX0_exchanged_34 : decode cX0_exchanged 34 = .ok (.ior, 1) := by decide +kernel
theorem dX0_exchanged_35 : decode cX0_exchanged 35 = .ok (.ixor, 1) := by decide +kernel
theorem dX0_exchanged_36 : decode cX0_exchanged 36 = .ok (.ireturn, 1) := by decide +kernel
theorem dX0_isBetterThan_0 : decode cX0_isBetterThan 0 = .ok (.aload_n 0, 1) := by decide +kernel
theorem dX0_isBetterThan_1 : decode cX0_isBetterThan 1 = .ok (.getfield 9, 3) := by decide +kernel
theorem dX0_isBetterThan_4 : decode cX0_isBetterThan 4 = .ok (.aload_n 1, 1) := by decide +kernel
theorem dX0_isBetterThan_5 : decode cX0_isBetterThan 5 = .ok (.getfield 9, 3) := by decide +kernel
theorem dX0_isBetterThan_8 : decode cX0_isBetterThan 8 = .ok (.if_icmp .eq 20, 3) := by decide +kernel
theorem dX0_isBetterThan_11 : decode cX0_isBetterThan 11 = .ok (.aload_n 0, 1) := by decide +kernel
theorem dX0_isBetterThan_12 : decode cX0_isBetterThan 12 = .ok (.getfield 9, 3) := by decide +kernel
theorem dX0_isBetterThan_15 : decode cX0_isBetterThan 15 = .ok (.aload_n 1, 1) := by decide +kernel
theorem dX0_isBetterThan_16 : decode cX0_isBetterThan 16 = .ok (.getfield 9, 3) := by decide +kernel
theorem dX0_isBetterThan_19 : decode cX0_isBetterThan 19 = .ok (.if_icmp .le 7, 3) := by decide +kernel
theorem dX0_isBetterThan_22 : decode cX0_isBetterThan 22 = .ok (.iconst 1, 1) := by decide +kernel
theorem dX0_isBetterThan_23 : decode cX0_isBetterThan 23 = .ok (.goto 4, 3) := by decide +kernel
theorem dX0_isBetterThan_26 : decode cX0_isBetterThan 26 = .ok (.iconst 0, 1) := by decide +kernel
theorem dX0_isBetterThan_27 : decode cX0_isBetterThan 27 = .ok (.ireturn, 1) := by decide +kernel
theorem dX0_isBetterThan_28 : decode cX0_isBetterThan 28 = .ok (.aload_n 0, 1) := by decide +kernel
theorem dX0_isBetterThan_29 : decode cX0_isBetterThan 29 = .ok (.getfield 15, 3) := by decide +kernel
theorem dX0_isBetterThan_32 : decode cX0_isBetterThan 32 = .ok (.aload_n 1, 1) := by decide +kernel
theorem dX0_isBetterThan_33 : decode cX0_isBetterThan 33 = .ok (.getfield 15, 3) := by decide +kernel
theorem dX0_isBetterThan_36 : decode cX0_isBetterThan 36 = .ok (.if_icmp .ge 7, 3) := by decide +kernel
theorem dX0_isBetterThan_39 : decode cX0_isBetterThan 39 = .ok (.iconst 1, 1) := by decide +kernel
theorem dX0_isBetterThan_40 : decode cX0_isBetterThan 40 = .ok (.goto 4, 3) := by decide +kernel
theorem dX0_isBetterThan_43 : decode cX0_isBetterThan 43 = .ok (.iconst 0, 1) := by decide +kernel
theorem dX0_isBetterThan_44 : decode cX0_isBetterThan 44 = .ok (.ireturn, 1) := by decide +kernel
theorem dX0_copyFrom_0 : decode cX0_copyFrom 0 = .ok (.aload_n 0, 1) := by decide +kernel
theorem dX0_copyFrom_1 : decode cX0_copyFrom 1 = .ok (.aload_n 1, 1) := by decide +kernel
theorem dX0_copyFrom_2 : decode cX0_copyFrom 2 = .ok (.getfield 9, 3) := by decide +kernel
theorem dX0_copyFrom_5 : decode cX0_copyFrom 5 = .ok (.putfield 9, 3) := by decide +kernel
theorem dX0_copyFrom_8 : decode cX0_copyFrom 8 = .ok (.aload_n 0, 1) := by decide +kernel
theorem dX0_copyFrom_9 : decode cX0_copyFrom 9 = .ok (.aload_n 1, 1) := by decide +kernel
theorem dX0_copyFrom_10 : decode cX0_copyFrom 10 = .ok (.getfield 15, 3) := by decide +kernel
theorem dX0_copyFrom_13 : decode cX0_copyFrom 13 = .ok (.putfield 15, 3) := by decide +kernel
theorem dX0_copyFrom_16 : decode cX0_copyFrom 16 = .ok (.return_, 1) := by decide +kernel
theorem dX1_init_0 : decode cX1_init 0 = .ok (.aload_n 0, 1) := by decide +kernel
theorem dX1_init_1 : decode cX1_init 1 = .ok (.invokespecial 3, 3) := by decide +kernel
theorem dX1_init_4 : decode cX1_init 4 = .ok (.aload_n 0, 1) := by decide +kernel
theorem dX1_init_5 : decode cX1_init 5 = .ok (.new 9, 3) := by decide +kernel
theorem dX1_init_8 : decode cX1_init 8 = .ok (.dup, 1) := by decide +kernel
theorem dX1_init_9 : decode cX1_init 9 = .ok (.sipush 200, 3) := by decide +kernel
theorem dX1_init_12 : decode cX1_init 12 = .ok (.invokespecial 11, 3) := by decide +kernel
theorem dX1_init_15 : decode cX1_init 15 = .ok (.putfield 14, 3) := by decide +kernel
theorem dX1_init_18 : decode cX1_init 18 = .ok (.aload_n 0, 1) := by decide +kernel
theorem dX1_init_19 : decode cX1_init 19 = .ok (.new 9, 3) := by decide +kernel
theorem dX1_init_22 : decode cX1_init 22 = .ok (.dup, 1) := by decide +kernel
theorem dX1_init_23 : decode cX1_init 23 = .ok (.sipush 1000, 3) := by decide +kernel
theorem dX1_init_26 : decode cX1_init 26 = .ok (.invokespecial 11, 3) := by decide +kernel
theorem dX1_init_29 : decode cX1_init 29 = .ok (.putfield 20, 3) := by decide +kernel
theorem dX1_init_32 : decode cX1_init 32 = .ok (.aload_n 0, 1) := by decide +kernel
theorem dX1_init_33 : decode cX1_init 33 = .ok (.iconst 0, 1) := by decide +kernel
theorem dX1_init_34 : decode cX1_init 34 = .ok (.putfield 23, 3) := by decide +kernel
theorem dX1_init_37 : decode cX1_init 37 = .ok (.aload_n 0, 1) := by decide +kernel
theorem dX1_init_38 : decode cX1_init 38 = .ok (.iconst 0, 1) := by decide +kernel
theorem dX1_init_39 : decode cX1_init 39 = .ok (.putfield 27, 3) := by decide +kernel
theorem dX1_init_42 : decode cX1_init 42 = .ok (.aload_n 0, 1) := by decide +kernel
theorem dX1_init_43 : decode cX1_init 43 = .ok (.iconst 0, 1) := by decide +kernel
theorem dX1_init_44 : decode cX1_init 44 = .ok (.putfield 30, 3) := by decide +kernel
theorem dX1_init_47 : decode cX1_init 47 = .ok (.return_, 1) := by decide +kernel
theorem dX1_items_0 : decode cX1_items 0 = .ok (.aload_n 0, 1) := by decide +kernel
theorem dX1_items_1 : decode cX1_items 1 = .ok (.getfield 20, 3) := by decide +kernel
theorem dX1_items_4 : decode cX1_items 4 = .ok (.invokevirtual 33, 3) := by decide +kernel
theorem dX1_items_7 : decode cX1_items 7 = .ok (.iconst 5, 1) := by decide +kernel
theorem dX1_items_8 : decode cX1_items 8 = .ok (.idiv, 1) := by decide +kernel
theorem dX1_items_9 : decode cX1_items 9 = .ok (.ireturn, 1) := by decide +kernel
theorem dX1_faultIn_0 : decode cX1_faultIn 0 = .ok (.aload_n 0, 1) := by decide +kernel
theorem dX1_faultIn_1 : decode cX1_faultIn 1 = .ok (.getfield 14, 3) := by decide +kernel
theorem dX1_faultIn_4 : decode cX1_faultIn 4 = .ok (.aload_n 1, 1) := by decide +kernel
theorem dX1_faultIn_5 : decode cX1_faultIn 5 = .ok (.invokevirtual 37, 3) := by decide +kernel
theorem dX1_faultIn_8 : decode cX1_faultIn 8 = .ok (.aload_n 0, 1) := by decide +kernel
theorem dX1_faultIn_9 : decode cX1_faultIn 9 = .ok (.getfield 20, 3) := by decide +kernel
theorem dX1_faultIn_12 : decode cX1_faultIn 12 = .ok (.invokevirtual 41, 3) := by decide +kernel
theorem dX1_faultIn_15 : decode cX1_faultIn 15 = .ok (.aload_n 0, 1) := by decide +kernel
theorem dX1_faultIn_16 : decode cX1_faultIn 16 = .ok (.iconst 0, 1) := by decide +kernel
theorem dX1_faultIn_17 : decode cX1_faultIn 17 = .ok (.putfield 27, 3) := by decide +kernel
theorem dX1_faultIn_20 : decode cX1_faultIn 20 = .ok (.iconst 0, 1) := by decide +kernel
theorem dX1_faultIn_21 : decode cX1_faultIn 21 = .ok (.istore_n 2, 1) := by decide +kernel
theorem dX1_faultIn_22 : decode cX1_faultIn 22 = .ok (.iload_n 2, 1) := by decide +kernel
theorem dX1_faultIn_23 : decode cX1_faultIn 23 = .ok (.aload_n 0, 1) := by decide +kernel
theorem dX1_faultIn_24 : decode cX1_faultIn 24 = .ok (.getfield 14, 3) := by decide +kernel
theorem dX1_faultIn_27 : decode cX1_faultIn 27 = .ok (.invokevirtual 33, 3) := by decide +kernel
theorem dX1_faultIn_30 : decode cX1_faultIn 30 = .ok (.if_icmp .gt 86, 3) := by decide +kernel
theorem dX1_faultIn_33 : decode cX1_faultIn 33 = .ok (.aload_n 0, 1) := by decide +kernel
theorem dX1_faultIn_34 : decode cX1_faultIn 34 = .ok (.invokevirtual 44, 3) := by decide +kernel
theorem dX1_faultIn_37 : decode cX1_faultIn 37 = .ok (.aload_n 0, 1) := by decide +kernel
theorem dX1_faultIn_38 : decode cX1_faultIn 38 = .ok (.getfield 30, 3) := by decide +kernel
theorem dX1_faultIn_41 : decode cX1_faultIn 41 = .ok (.ifCond .ne 12, 3) := by decide +kernel
theorem dX1_faultIn_44 : decode cX1_faultIn 44 = .ok (.aload_n 0, 1) := by decide +kernel
theorem dX1_faultIn_45 : decode cX1_faultIn 45 = .ok (.invokevirtual 47, 3) := by decide +kernel
theorem dX1_faultIn_48 : decode cX1_faultIn 48 = .ok (.ifCond .le 5, 3) := by decide +kernel
theorem dX1_faultIn_51 : decode cX1_faultIn 51 = .ok (.iconst (-1), 1) := by decide +kernel
theorem dX1_faultIn_52 : decode cX1_faultIn 52 = .ok (.ireturn, 1) := by decide +kernel
theorem dX1_faultIn_53 : decode cX1_faultIn 53 = .ok (.aload_n 0, 1) := by decide +kernel
theorem dX1_faultIn_54 : decode cX1_faultIn 54 = .ok (.invokevirtual 47, 3) := by decide +kernel
theorem dX1_faultIn_57 : decode cX1_faultIn 57 = .ok (.ifCond .ne 19, 3) := by decide +kernel
theorem dX1_faultIn_60 : decode cX1_faultIn 60 = .ok (.aload_n 0, 1) := by decide +kernel
theorem dX1_faultIn_61 : decode cX1_faultIn 61 = .ok (.getfield 30, 3) := by decide +kernel
theorem dX1_faultIn_64 : decode cX1_faultIn 64 = .ok (.iconst 5, 1) := by decide +kernel
theorem dX1_faultIn_65 : decode cX1_faultIn 65 = .ok (.if_icmp .ne 7, 3) := by decide +kernel
theorem dX1_faultIn_68 : decode cX1_faultIn 68 = .ok (.iconst 1, 1) := by decide +kernel
theorem dX1_faultIn_69 : decode cX1_faultIn 69 = .ok (.goto 20, 3) := by decide +kernel
theorem dX1_faultIn_72 : decode cX1_faultIn 72 = .ok (.iconst 0, 1) := by decide +kernel
theorem dX1_faultIn_73 : decode cX1_faultIn 73 = .ok (.goto 16, 3) := by decide +kernel
theorem dX1_faultIn_76 : decode cX1_faultIn 76 = .ok (.aload_n 0, 1) := by decide +kernel
theorem dX1_faultIn_77 : decode cX1_faultIn 77 = .ok (.getfield 30, 3) := by decide +kernel
theorem dX1_faultIn_80 : decode cX1_faultIn 80 = .ok (.iconst 5, 1) := by decide +kernel
theorem dX1_faultIn_81 : decode cX1_faultIn 81 = .ok (.if_icmp .le 7, 3) := by decide +kernel
theorem dX1_faultIn_84 : decode cX1_faultIn 84 = .ok (.iconst 1, 1) := by decide +kernel
theorem dX1_faultIn_85 : decode cX1_faultIn 85 = .ok (.goto 4, 3) := by decide +kernel
theorem dX1_faultIn_88 : decode cX1_faultIn 88 = .ok (.iconst 0, 1) := by decide +kernel
theorem dX1_faultIn_89 : decode cX1_faultIn 89 = .ok (.istore_n 3, 1) := by decide +kernel
theorem dX1_faultIn_90 : decode cX1_faultIn 90 = .ok (.iload_n 3, 1) := by decide +kernel
theorem dX1_faultIn_91 : decode cX1_faultIn 91 = .ok (.ifCond .eq 14, 3) := by decide +kernel
theorem dX1_faultIn_94 : decode cX1_faultIn 94 = .ok (.aload_n 0, 1) := by decide +kernel
theorem dX1_faultIn_95 : decode cX1_faultIn 95 = .ok (.aload_n 0, 1) := by decide +kernel
theorem dX1_faultIn_96 : decode cX1_faultIn 96 = .ok (.getfield 30, 3) := by decide +kernel
theorem dX1_faultIn_99 : decode cX1_faultIn 99 = .ok (.invokevirtual 50, 3) := by decide +kernel
theorem dX1_faultIn_102 : decode cX1_faultIn 102 = .ok (.ifCond .ne 8, 3) := by decide +kernel
theorem dX1_faultIn_105 : decode cX1_faultIn 105 = .ok (.aload_n 0, 1) := by decide +kernel
theorem dX1_faultIn_106 : decode cX1_faultIn 106 = .ok (.getfield 23, 3) := by decide +kernel
theorem dX1_faultIn_109 : decode cX1_faultIn 109 = .ok (.ireturn, 1) := by decide +kernel
theorem dX1_faultIn_110 : decode cX1_faultIn 110 = .ok (.iinc 2 1, 3) := by decide +kernel
theorem dX1_faultIn_113 : decode cX1_faultIn 113 = .ok (.goto (-91), 3) := by decide +kernel
theorem dX1_faultIn_116 : decode cX1_faultIn 116 = .ok (.aload_n 0, 1) := by decide +kernel
theorem dX1_faultIn_117 : decode cX1_faultIn 117 = .ok (.getfield 23, 3) := by decide +kernel
theorem dX1_faultIn_120 : decode cX1_faultIn 120 = .ok (.ireturn, 1) := by decide +kernel
theorem dX1_takeItem_0 : decode cX1_takeItem 0 = .ok (.iload_n 1, 1) := by decide +kernel
theorem dX1_takeItem_1 : decode cX1_takeItem 1 = .ok (.invokestatic 54, 3) := by decide +kernel
theorem dX1_takeItem_4 : decode cX1_takeItem 4 = .ok (.istore_n 2, 1) := by decide +kernel
theorem dX1_takeItem_5 : decode cX1_takeItem 5 = .ok (.aload_n 0, 1) := by decide +kernel
theorem dX1_takeItem_6 : decode cX1_takeItem 6 = .ok (.getfield 20, 3) := by decide +kernel
theorem dX1_takeItem_9 : decode cX1_takeItem 9 = .ok (.iload_n 1, 1) := by decide +kernel
theorem dX1_takeItem_10 : decode cX1_takeItem 10 = .ok (.invokevirtual 58, 3) := by decide +kernel
theorem dX1_takeItem_13 : decode cX1_takeItem 13 = .ok (.iconst 0, 1) := by decide +kernel
theorem dX1_takeItem_14 : decode cX1_takeItem 14 = .ok (.istore_n 3, 1) := by decide +kernel
theorem dX1_takeItem_15 : decode cX1_takeItem 15 = .ok (.iload_n 3, 1) := by decide +kernel
theorem dX1_takeItem_16 : decode cX1_takeItem 16 = .ok (.iconst 4, 1) := by decide +kernel
theorem dX1_takeItem_17 : decode cX1_takeItem 17 = .ok (.if_icmp .ge 112, 3) := by decide +kernel
theorem dX1_takeItem_20 : decode cX1_takeItem 20 = .ok (.iload_n 3, 1) := by decide +kernel
theorem dX1_takeItem_21 : decode cX1_takeItem 21 = .ok (.iload_n 2, 1) := by decide +kernel
theorem dX1_takeItem_22 : decode cX1_takeItem 22 = .ok (.if_icmp .lt 14, 3) := by decide +kernel
theorem dX1_takeItem_25 : decode cX1_takeItem 25 = .ok (.aload_n 0, 1) := by decide +kernel
theorem dX1_takeItem_26 : decode cX1_takeItem 26 = .ok (.getfield 20, 3) := by decide +kernel
theorem dX1_takeItem_29 : decode cX1_takeItem 29 = .ok (.iconst 0, 1) := by decide +kernel
theorem dX1_takeItem_30 : decode cX1_takeItem 30 = .ok (.invokevirtual 58, 3) := by decide +kernel
theorem dX1_takeItem_33 : decode cX1_takeItem 33 = .ok (.goto 90, 3) := by decide +kernel
theorem dX1_takeItem_36 : decode cX1_takeItem 36 = .ok (.aload_n 0, 1) := by decide +kernel
theorem dX1_takeItem_37 : decode cX1_takeItem 37 = .ok (.invokevirtual 44, 3) := by decide +kernel
theorem dX1_takeItem_40 : decode cX1_takeItem 40 = .ok (.iload_n 1, 1) := by decide +kernel
theorem dX1_takeItem_41 : decode cX1_takeItem 41 = .ok (.bipush 6, 2) := by decide +kernel
theorem dX1_takeItem_43 : decode cX1_takeItem 43 = .ok (.if_icmp .ne 22, 3) := by decide +kernel
theorem dX1_takeItem_46 : decode cX1_takeItem 46 = .ok (.iload_n 3, 1) := by decide +kernel
theorem dX1_takeItem_47 : decode cX1_takeItem 47 = .ok (.iload_n 2, 1) := by decide +kernel
theorem dX1_takeItem_48 : decode cX1_takeItem 48 = .ok (.iconst 1, 1) := by decide +kernel
theorem dX1_takeItem_49 : decode cX1_takeItem 49 = .ok (.isub, 1) := by decide +kernel
theorem dX1_takeItem_50 : decode cX1_takeItem 50 = .ok (.if_icmp .ne 15, 3) := by decide +kernel
theorem dX1_takeItem_53 : decode cX1_takeItem 53 = .ok (.aload_n 0, 1) := by decide +kernel
theorem dX1_takeItem_54 : decode cX1_takeItem 54 = .ok (.getfield 30, 3) := by decide +kernel
theorem dX1_takeItem_57 : decode cX1_takeItem 57 = .ok (.iconst 3, 1) := by decide +kernel
theorem dX1_takeItem_58 : decode cX1_takeItem 58 = .ok (.if_icmp .ne 7, 3) := by decide +kernel
theorem dX1_takeItem_61 : decode cX1_takeItem 61 = .ok (.iconst 1, 1) := by decide +kernel
theorem dX1_takeItem_62 : decode cX1_takeItem 62 = .ok (.goto 4, 3) := by decide +kernel
theorem dX1_takeItem_65 : decode cX1_takeItem 65 = .ok (.iconst 0, 1) := by decide +kernel
theorem dX1_takeItem_66 : decode cX1_takeItem 66 = .ok (.istore 4, 2) := by decide +kernel
theorem dX1_takeItem_68 : decode cX1_takeItem 68 = .ok (.iload 4, 2) := by decide +kernel
theorem dX1_takeItem_70 : decode cX1_takeItem 70 = .ok (.ifCond .eq 7, 3) := by decide +kernel
theorem dX1_takeItem_73 : decode cX1_takeItem 73 = .ok (.aload_n 0, 1) := by decide +kernel
theorem dX1_takeItem_74 : decode cX1_takeItem 74 = .ok (.invokevirtual 44, 3) := by decide +kernel
theorem dX1_takeItem_77 : decode cX1_takeItem 77 = .ok (.aload_n 0, 1) := by decide +kernel
theorem dX1_takeItem_78 : decode cX1_takeItem 78 = .ok (.getfield 30, 3) := by decide +kernel
theorem dX1_takeItem_81 : decode cX1_takeItem 81 = .ok (.iconst 2, 1) := by decide +kernel
theorem dX1_takeItem_82 : decode cX1_takeItem 82 = .ok (.if_icmp .eq 5, 3) := by decide +kernel
theorem dX1_takeItem_85 : decode cX1_takeItem 85 = .ok (.iconst 0, 1) := by decide +kernel
theorem dX1_takeItem_86 : decode cX1_takeItem 86 = .ok (.ireturn, 1) := by decide +kernel
theorem dX1_takeItem_87 : decode cX1_takeItem 87 = .ok (.aload_n 0, 1) := by decide +kernel
theorem dX1_takeItem_88 : decode cX1_takeItem 88 = .ok (.getfield 14, 3) := by decide +kernel
theorem dX1_takeItem_91 : decode cX1_takeItem 91 = .ok (.aload_n 0, 1) := by decide +kernel
theorem dX1_takeItem_92 : decode cX1_takeItem 92 = .ok (.getfield 23, 3) := by decide +kernel
theorem dX1_takeItem_95 : decode cX1_takeItem 95 = .ok (.invokevirtual 61, 3) := by decide +kernel
theorem dX1_takeItem_98 : decode cX1_takeItem 98 = .ok (.bipush 48, 2) := by decide +kernel
theorem dX1_takeItem_100 : decode cX1_takeItem 100 = .ok (.isub, 1) := by decide +kernel
theorem dX1_takeItem_101 : decode cX1_takeItem 101 = .ok (.istore 5, 2) := by decide +kernel
theorem dX1_takeItem_103 : decode cX1_takeItem 103 = .ok (.aload_n 0, 1) := by decide +kernel
theorem dX1_takeItem_104 : decode cX1_takeItem 104 = .ok (.getfield 20, 3) := by decide +kernel
theorem dX1_takeItem_107 : decode cX1_takeItem 107 = .ok (.iload 4, 2) := by decide +kernel
theorem dX1_takeItem_109 : decode cX1_takeItem 109 = .ok (.ifCond .eq 9, 3) := by decide +kernel
theorem dX1_takeItem_112 : decode cX1_takeItem 112 = .ok (.iload 5, 2) := by decide +kernel
theorem dX1_takeItem_114 : decode cX1_takeItem 114 = .ok (.ineg, 1) := by decide +kernel
theorem dX1_takeItem_115 : decode cX1_takeItem 115 = .ok (.goto 5, 3) := by decide +kernel
theorem dX1_takeItem_118 : decode cX1_takeItem 118 = .ok (.iload 5, 2) := by decide +kernel
theorem dX1_takeItem_120 : decode cX1_takeItem 120 = .ok (.invokevirtual 58, 3) := by decide +kernel
theorem dX1_takeItem_123 : decode cX1_takeItem 123 = .ok (.iinc 3 1, 3) := by decide +kernel
theorem dX1_takeItem_126 : decode cX1_takeItem 126 = .ok (.goto (-111), 3) := by decide +kernel
theorem dX1_takeItem_129 : decode cX1_takeItem 129 = .ok (.aload_n 0, 1) := by decide +kernel
theorem dX1_takeItem_130 : decode cX1_takeItem 130 = .ok (.invokevirtual 44, 3) := by decide +kernel
theorem dX1_takeItem_133 : decode cX1_takeItem 133 = .ok (.aload_n 0, 1) := by decide +kernel
theorem dX1_takeItem_134 : decode cX1_takeItem 134 = .ok (.getfield 30, 3) := by decide +kernel
theorem dX1_takeItem_137 : decode cX1_takeItem 137 = .ok (.iconst 4, 1) := by decide +kernel
theorem dX1_takeItem_138 : decode cX1_takeItem 138 = .ok (.if_icmp .ne 7, 3) := by decide +kernel
theorem dX1_takeItem_141 : decode cX1_takeItem 141 = .ok (.iconst 1, 1) := by decide +kernel
theorem dX1_takeItem_142 : decode cX1_takeItem 142 = .ok (.goto 4, 3) := by decide +kernel
theorem dX1_takeItem_145 : decode cX1_takeItem 145 = .ok (.iconst 0, 1) := by decide +kernel
theorem dX1_takeItem_146 : decode cX1_takeItem 146 = .ok (.ireturn, 1) := by decide +kernel
theorem dX1_numbersOf_0 : decode cX1_numbersOf 0 = .ok (.iload_n 0, 1) := by decide +kernel
theorem dX1_numbersOf_1 : decode cX1_numbersOf 1 = .ok (.bipush 6, 2) := by decide +kernel
theorem dX1_numbersOf_3 : decode cX1_numbersOf 3 = .ok (.if_icmp .ne 5, 3) := by decide +kernel
theorem dX1_numbersOf_6 : decode cX1_numbersOf 6 = .ok (.iconst 4, 1) := by decide +kernel
theorem dX1_numbersOf_7 : decode cX1_numbersOf 7 = .ok (.ireturn, 1) := by decide +kernel
theorem dX1_numbersOf_8 : decode cX1_numbersOf 8 = .ok (.iload_n 0, 1) := by decide +kernel
theorem dX1_numbersOf_9 : decode cX1_numbersOf 9 = .ok (.bipush 8, 2) := by decide +kernel
theorem dX1_numbersOf_11 : decode cX1_numbersOf 11 = .ok (.if_icmp .ne 7, 3) := by decide +kernel
theorem dX1_numbersOf_14 : decode cX1_numbersOf 14 = .ok (.iconst 2, 1) := by decide +kernel
theorem dX1_numbersOf_15 : decode cX1_numbersOf 15 = .ok (.goto 4, 3) := by decide +kernel
theorem dX1_numbersOf_18 : decode cX1_numbersOf 18 = .ok (.iconst 1, 1) := by decide +kernel
theorem dX1_numbersOf_19 : decode cX1_numbersOf 19 = .ok (.ireturn, 1) := by decide +kernel
theorem dX1_scan_0 : decode cX1_scan 0 = .ok (.aload_n 0, 1) := by decide +kernel
theorem dX1_scan_1 : decode cX1_scan 1 = .ok (.getfield 27, 3) := by decide +kernel
theorem dX1_scan_4 : decode cX1_scan 4 = .ok (.istore_n 1, 1) := by decide +kernel
theorem dX1_scan_5 : decode cX1_scan 5 = .ok (.iload_n 1, 1) := by decide +kernel
theorem dX1_scan_6 : decode cX1_scan 6 = .ok (.aload_n 0, 1) := by decide +kernel
theorem dX1_scan_7 : decode cX1_scan 7 = .ok (.getfield 14, 3) := by decide +kernel
theorem dX1_scan_10 : decode cX1_scan 10 = .ok (.invokevirtual 33, 3) := by decide +kernel
theorem dX1_scan_13 : decode cX1_scan 13 = .ok (.if_icmp .ge 29, 3) := by decide +kernel
theorem dX1_scan_16 : decode cX1_scan 16 = .ok (.aload_n 0, 1) := by decide +kernel
theorem dX1_scan_17 : decode cX1_scan 17 = .ok (.getfield 14, 3) := by decide +kernel
theorem dX1_scan_20 : decode cX1_scan 20 = .ok (.iload_n 1, 1) := by decide +kernel
theorem dX1_scan_21 : decode cX1_scan 21 = .ok (.invokevirtual 61, 3) := by decide +kernel
theorem dX1_scan_24 : decode cX1_scan 24 = .ok (.bipush 32, 2) := by decide +kernel
theorem dX1_scan_26 : decode cX1_scan 26 = .ok (.if_icmp .ne 16, 3) := by decide +kernel
theorem dX1_scan_29 : decode cX1_scan 29 = .ok (.aload_n 0, 1) := by decide +kernel
theorem dX1_scan_30 : decode cX1_scan 30 = .ok (.iload_n 1, 1) := by decide +kernel
theorem dX1_scan_31 : decode cX1_scan 31 = .ok (.iconst 1, 1) := by decide +kernel
theorem dX1_scan_32 : decode cX1_scan 32 = .ok (.iadd, 1) := by decide +kernel
theorem dX1_scan_33 : decode cX1_scan 33 = .ok (.putfield 27, 3) := by decide +kernel
theorem dX1_scan_36 : decode cX1_scan 36 = .ok (.iinc 1 1, 3) := by decide +kernel
theorem dX1_scan_39 : decode cX1_scan 39 = .ok (.goto (-34), 3) := by decide +kernel
theorem dX1_scan_42 : decode cX1_scan 42 = .ok (.aload_n 0, 1) := by decide +kernel
theorem dX1_scan_43 : decode cX1_scan 43 = .ok (.aload_n 0, 1) := by decide +kernel
theorem dX1_scan_44 : decode cX1_scan 44 = .ok (.getfield 27, 3) := by decide +kernel
theorem dX1_scan_47 : decode cX1_scan 47 = .ok (.putfield 23, 3) := by decide +kernel
theorem dX1_scan_50 : decode cX1_scan 50 = .ok (.aload_n 0, 1) := by decide +kernel
theorem dX1_scan_51 : decode cX1_scan 51 = .ok (.getfield 14, 3) := by decide +kernel
theorem dX1_scan_54 : decode cX1_scan 54 = .ok (.aload_n 0, 1) := by decide +kernel
theorem dX1_scan_55 : decode cX1_scan 55 = .ok (.getfield 23, 3) := by decide +kernel
theorem dX1_scan_58 : decode cX1_scan 58 = .ok (.invokevirtual 64, 3) := by decide +kernel
theorem dX1_scan_61 : decode cX1_scan 61 = .ok (.ifCond .ne 9, 3) := by decide +kernel
theorem dX1_scan_64 : decode cX1_scan 64 = .ok (.aload_n 0, 1) := by decide +kernel
theorem dX1_scan_65 : decode cX1_scan 65 = .ok (.iconst 0, 1) := by decide +kernel
theorem dX1_scan_66 : decode cX1_scan 66 = .ok (.putfield 30, 3) := by decide +kernel
theorem dX1_scan_69 : decode cX1_scan 69 = .ok (.return_, 1) := by decide +kernel
theorem dX1_scan_70 : decode cX1_scan 70 = .ok (.aload_n 0, 1) := by decide +kernel
theorem dX1_scan_71 : decode cX1_scan 71 = .ok (.getfield 14, 3) := by decide +kernel
theorem dX1_scan_74 : decode cX1_scan 74 = .ok (.aload_n 0, 1) := by decide +kernel
theorem dX1_scan_75 : decode cX1_scan 75 = .ok (.getfield 23, 3) := by decide +kernel
theorem dX1_scan_78 : decode cX1_scan 78 = .ok (.invokevirtual 61, 3) := by decide +kernel
theorem dX1_scan_81 : decode cX1_scan 81 = .ok (.istore_n 1, 1) := by decide +kernel
theorem dX1_scan_82 : decode cX1_scan 82 = .ok (.aload_n 0, 1) := by decide +kernel
theorem dX1_scan_83 : decode cX1_scan 83 = .ok (.aload_n 0, 1) := by decide +kernel
theorem dX1_scan_84 : decode cX1_scan 84 = .ok (.getfield 23, 3) := by decide +kernel
theorem dX1_scan_87 : decode cX1_scan 87 = .ok (.iconst 1, 1) := by decide +kernel
theorem dX1_scan_88 : decode cX1_scan 88 = .ok (.iadd, 1) := by decide +kernel
theorem dX1_scan_89 : decode cX1_scan 89 = .ok (.putfield 27, 3) := by decide +kernel
theorem dX1_scan_92 : decode cX1_scan 92 = .ok (.iload_n 1, 1) := by decide +kernel
theorem dX1_scan_93 : decode cX1_scan 93 = .ok (.invokestatic 67, 3) := by decide +kernel
theorem dX1_scan_96 : decode cX1_scan 96 = .ok (.ifCond .eq 14, 3) := by decide +kernel
theorem dX1_scan_99 : decode cX1_scan 99 = .ok (.aload_n 0, 1) := by decide +kernel
theorem dX1_scan_100 : decode cX1_scan 100 = .ok (.aload_n 0, 1) := by decide +kernel
theorem dX1_scan_101 : decode cX1_scan 101 = .ok (.invokevirtual 70, 3) := by decide +kernel
theorem dX1_scan_104 : decode cX1_scan 104 = .ok (.putfield 30, 3) := by decide +kernel
theorem dX1_scan_107 : decode cX1_scan 107 = .ok (.goto 50, 3) := by decide +kernel
theorem dX1_scan_110 : decode cX1_scan 110 = .ok (.iload_n 1, 1) := by decide +kernel
theorem dX1_scan_111 : decode cX1_scan 111 = .ok (.invokestatic 73, 3) := by decide +kernel
theorem dX1_scan_114 : decode cX1_scan 114 = .ok (.ifCond .eq 14, 3) := by decide +kernel
theorem dX1_scan_117 : decode cX1_scan 117 = .ok (.aload_n 0, 1) := by decide +kernel
theorem dX1_scan_118 : decode cX1_scan 118 = .ok (.aload_n 0, 1) := by decide +kernel
theorem dX1_scan_119 : decode cX1_scan 119 = .ok (.invokevirtual 76, 3) := by decide +kernel
theorem dX1_scan_122 : decode cX1_scan 122 = .ok (.putfield 30, 3) := by decide +kernel
theorem dX1_scan_125 : decode cX1_scan 125 = .ok (.goto 32, 3) := by decide +kernel
theorem dX1_scan_128 : decode cX1_scan 128 = .ok (.iload_n 1, 1) := by decide +kernel
theorem dX1_scan_129 : decode cX1_scan 129 = .ok (.bipush 45, 2) := by decide +kernel
theorem dX1_scan_131 : decode cX1_scan 131 = .ok (.if_icmp .ne 11, 3) := by decide +kernel
theorem dX1_scan_134 : decode cX1_scan 134 = .ok (.aload_n 0, 1) := by decide +kernel
theorem dX1_scan_135 : decode cX1_scan 135 = .ok (.iconst 3, 1) := by decide +kernel
theorem dX1_scan_136 : decode cX1_scan 136 = .ok (.putfield 30, 3) := by decide +kernel
theorem dX1_scan_139 : decode cX1_scan 139 = .ok (.goto 18, 3) := by decide +kernel
theorem dX1_scan_142 : decode cX1_scan 142 = .ok (.aload_n 0, 1) := by decide +kernel
theorem dX1_scan_143 : decode cX1_scan 143 = .ok (.iload_n 1, 1) := by decide +kernel
theorem dX1_scan_144 : decode cX1_scan 144 = .ok (.bipush 59, 2) := by decide +kernel
theorem dX1_scan_146 : decode cX1_scan 146 = .ok (.if_icmp .ne 7, 3) := by decide +kernel
theorem dX1_scan_149 : decode cX1_scan 149 = .ok (.iconst 4, 1) := by decide +kernel
theorem dX1_scan_150 : decode cX1_scan 150 = .ok (.goto 4, 3) := by decide +kernel
theorem dX1_scan_153 : decode cX1_scan 153 = .ok (.iconst 1, 1) := by decide +kernel
theorem dX1_scan_154 : decode cX1_scan 154 = .ok (.putfield 30, 3) := by decide +kernel
theorem dX1_scan_157 : decode cX1_scan 157 = .ok (.return_, 1) := by decide +kernel
theorem dX1_numberHere_0 : decode cX1_numberHere 0 = .ok (.aload_n 0, 1) := by decide +kernel
theorem dX1_numberHere_1 : decode cX1_numberHere 1 = .ok (.getfield 27, 3) := by decide +kernel
theorem dX1_numberHere_4 : decode cX1_numberHere 4 = .ok (.istore_n 1, 1) := by decide +kernel
theorem dX1_numberHere_5 : decode cX1_numberHere 5 = .ok (.iload_n 1, 1) := by decide +kernel
theorem dX1_numberHere_6 : decode cX1_numberHere 6 = .ok (.aload_n 0, 1) := by decide +kernel
theorem dX1_numberHere_7 : decode cX1_numberHere 7 = .ok (.getfield 14, 3) := by decide +kernel
theorem dX1_numberHere_10 : decode cX1_numberHere 10 = .ok (.invokevirtual 33, 3) := by decide +kernel
theorem dX1_numberHere_13 : decode cX1_numberHere 13 = .ok (.if_icmp .ge 30, 3) := by decide +kernel
theorem dX1_numberHere_16 : decode cX1_numberHere 16 = .ok (.aload_n 0, 1) := by decide +kernel
theorem dX1_numberHere_17 : decode cX1_numberHere 17 = .ok (.getfield 14, 3) := by decide +kernel
theorem dX1_numberHere_20 : decode cX1_numberHere 20 = .ok (.iload_n 1, 1) := by decide +kernel
theorem dX1_numberHere_21 : decode cX1_numberHere 21 = .ok (.invokevirtual 61, 3) := by decide +kernel
theorem dX1_numberHere_24 : decode cX1_numberHere 24 = .ok (.invokestatic 73, 3) := by decide +kernel
theorem dX1_numberHere_27 : decode cX1_numberHere 27 = .ok (.ifCond .eq 16, 3) := by decide +kernel
theorem dX1_numberHere_30 : decode cX1_numberHere 30 = .ok (.aload_n 0, 1) := by decide +kernel
theorem dX1_numberHere_31 : decode cX1_numberHere 31 = .ok (.iload_n 1, 1) := by decide +kernel
theorem dX1_numberHere_32 : decode cX1_numberHere 32 = .ok (.iconst 1, 1) := by decide +kernel
theorem dX1_numberHere_33 : decode cX1_numberHere 33 = .ok (.iadd, 1) := by decide +kernel
theorem dX1_numberHere_34 : decode cX1_numberHere 34 = .ok (.putfield 27, 3) := by decide +kernel
theorem dX1_numberHere_37 : decode cX1_numberHere 37 = .ok (.iinc 1 1, 3) := by decide +kernel
theorem dX1_numberHere_40 : decode cX1_numberHere 40 = .ok (.goto (-35), 3) := by decide +kernel
theorem dX1_numberHere_43 : decode cX1_numberHere 43 = .ok (.aload_n 0, 1) := by decide +kernel
theorem dX1_numberHere_44 : decode cX1_numberHere 44 = .ok (.getfield 27, 3) := by decide +kernel
theorem dX1_numberHere_47 : decode cX1_numberHere 47 = .ok (.aload_n 0, 1) := by decide +kernel
theorem dX1_numberHere_48 : decode cX1_numberHere 48 = .ok (.getfield 23, 3) := by decide +kernel
theorem dX1_numberHere_51 : decode cX1_numberHere 51 = .ok (.iconst 1, 1) := by decide +kernel
theorem dX1_numberHere_52 : decode cX1_numberHere 52 = .ok (.iadd, 1) := by decide +kernel
theorem dX1_numberHere_53 : decode cX1_numberHere 53 = .ok (.if_icmp .ne 7, 3) := by decide +kernel
theorem dX1_numberHere_56 : decode cX1_numberHere 56 = .ok (.iconst 2, 1) := by decide +kernel
theorem dX1_numberHere_57 : decode cX1_numberHere 57 = .ok (.goto 4, 3) := by decide +kernel
theorem dX1_numberHere_60 : decode cX1_numberHere 60 = .ok (.iconst 1, 1) := by decide +kernel
theorem dX1_numberHere_61 : decode cX1_numberHere 61 = .ok (.ireturn, 1) := by decide +kernel
theorem dX1_wordHere_0 : decode cX1_wordHere 0 = .ok (.aload_n 0, 1) := by decide +kernel
theorem dX1_wordHere_1 : decode cX1_wordHere 1 = .ok (.getfield 27, 3) := by decide +kernel
theorem dX1_wordHere_4 : decode cX1_wordHere 4 = .ok (.istore_n 1, 1) := by decide +kernel
theorem dX1_wordHere_5 : decode cX1_wordHere 5 = .ok (.iload_n 1, 1) := by decide +kernel
theorem dX1_wordHere_6 : decode cX1_wordHere 6 = .ok (.aload_n 0, 1) := by decide +kernel
theorem dX1_wordHere_7 : decode cX1_wordHere 7 = .ok (.getfield 14, 3) := by decide +kernel
theorem dX1_wordHere_10 : decode cX1_wordHere 10 = .ok (.invokevirtual 33, 3) := by decide +kernel
theorem dX1_wordHere_13 : decode cX1_wordHere 13 = .ok (.if_icmp .ge 30, 3) := by decide +kernel
theorem dX1_wordHere_16 : decode cX1_wordHere 16 = .ok (.aload_n 0, 1) := by decide +kernel
theorem dX1_wordHere_17 : decode cX1_wordHere 17 = .ok (.getfield 14, 3) := by decide +kernel
theorem dX1_wordHere_20 : decode cX1_wordHere 20 = .ok (.iload_n 1, 1) := by decide +kernel
theorem dX1_wordHere_21 : decode cX1_wordHere 21 = .ok (.invokevirtual 61, 3) := by decide +kernel
theorem dX1_wordHere_24 : decode cX1_wordHere 24 = .ok (.invokestatic 67, 3) := by decide +kernel
theorem dX1_wordHere_27 : decode cX1_wordHere 27 = .ok (.ifCond .eq 16, 3) := by decide +kernel
theorem dX1_wordHere_30 : decode cX1_wordHere 30 = .ok (.aload_n 0, 1) := by decide +kernel
theorem dX1_wordHere_31 : decode cX1_wordHere 31 = .ok (.iload_n 1, 1) := by decide +kernel
theorem dX1_wordHere_32 : decode cX1_wordHere 32 = .ok (.iconst 1, 1) := by decide +kernel
theorem dX1_wordHere_33 : decode cX1_wordHere 33 = .ok (.iadd, 1) := by decide +kernel
theorem dX1_wordHere_34 : decode cX1_wordHere 34 = .ok (.putfield 27, 3) := by decide +kernel
theorem dX1_wordHere_37 : decode cX1_wordHere 37 = .ok (.iinc 1 1, 3) := by decide +kernel
theorem dX1_wordHere_40 : decode cX1_wordHere 40 = .ok (.goto (-35), 3) := by decide +kernel
theorem dX1_wordHere_43 : decode cX1_wordHere 43 = .ok (.aload_n 0, 1) := by decide +kernel
theorem dX1_wordHere_44 : decode cX1_wordHere 44 = .ok (.ldc 79, 2) := by decide +kernel
theorem dX1_wordHere_46 : decode cX1_wordHere 46 = .ok (.invokevirtual 81, 3) := by decide +kernel
theorem dX1_wordHere_49 : decode cX1_wordHere 49 = .ok (.ifCond .eq 5, 3) := by decide +kernel
theorem dX1_wordHere_52 : decode cX1_wordHere 52 = .ok (.iconst 5, 1) := by decide +kernel
theorem dX1_wordHere_53 : decode cX1_wordHere 53 = .ok (.ireturn, 1) := by decide +kernel
theorem dX1_wordHere_54 : decode cX1_wordHere 54 = .ok (.aload_n 0, 1) := by decide +kernel
theorem dX1_wordHere_55 : decode cX1_wordHere 55 = .ok (.ldc 85, 2) := by decide +kernel
theorem dX1_wordHere_57 : decode cX1_wordHere 57 = .ok (.invokevirtual 81, 3) := by decide +kernel
theorem dX1_wordHere_60 : decode cX1_wordHere 60 = .ok (.ifCond .eq 6, 3) := by decide +kernel
theorem dX1_wordHere_63 : decode cX1_wordHere 63 = .ok (.bipush 6, 2) := by decide +kernel
theorem dX1_wordHere_65 : decode cX1_wordHere 65 = .ok (.ireturn, 1) := by decide +kernel
theorem dX1_wordHere_66 : decode cX1_wordHere 66 = .ok (.aload_n 0, 1) := by decide +kernel
theorem dX1_wordHere_67 : decode cX1_wordHere 67 = .ok (.ldc 87, 2) := by decide +kernel
theorem dX1_wordHere_69 : decode cX1_wordHere 69 = .ok (.invokevirtual 81, 3) := by decide +kernel
theorem dX1_wordHere_72 : decode cX1_wordHere 72 = .ok (.ifCond .eq 6, 3) := by decide +kernel
theorem dX1_wordHere_75 : decode cX1_wordHere 75 = .ok (.bipush 7, 2) := by decide +kernel
theorem dX1_wordHere_77 : decode cX1_wordHere 77 = .ok (.ireturn, 1) := by decide +kernel
theorem dX1_wordHere_78 : decode cX1_wordHere 78 = .ok (.aload_n 0, 1) := by decide +kernel
theorem dX1_wordHere_79 : decode cX1_wordHere 79 = .ok (.ldc 89, 2) := by decide +kernel
theorem dX1_wordHere_81 : decode cX1_wordHere 81 = .ok (.invokevirtual 81, 3) := by decide +kernel
theorem dX1_wordHere_84 : decode cX1_wordHere 84 = .ok (.ifCond .eq 6, 3) := by decide +kernel
theorem dX1_wordHere_87 : decode cX1_wordHere 87 = .ok (.bipush 8, 2) := by decide +kernel
theorem dX1_wordHere_89 : decode cX1_wordHere 89 = .ok (.ireturn, 1) := by decide +kernel
theorem dX1_wordHere_90 : decode cX1_wordHere 90 = .ok (.aload_n 0, 1) := by decide +kernel
theorem dX1_wordHere_91 : decode cX1_wordHere 91 = .ok (.ldc 91, 2) := by decide +kernel
theorem dX1_wordHere_93 : decode cX1_wordHere 93 = .ok (.invokevirtual 81, 3) := by decide +kernel
theorem dX1_wordHere_96 : decode cX1_wordHere 96 = .ok (.ifCond .eq 8, 3) := by decide +kernel
theorem dX1_wordHere_99 : decode cX1_wordHere 99 = .ok (.bipush 9, 2) := by decide +kernel
theorem dX1_wordHere_101 : decode cX1_wordHere 101 = .ok (.goto 4, 3) := by decide +kernel
theorem dX1_wordHere_104 : decode cX1_wordHere 104 = .ok (.iconst 1, 1) := by decide +kernel
theorem dX1_wordHere_105 : decode cX1_wordHere 105 = .ok (.ireturn, 1) := by decide +kernel
theorem dX1_isHere_0 : decode cX1_isHere 0 = .ok (.aload_n 0, 1) := by decide +kernel
theorem dX1_isHere_1 : decode cX1_isHere 1 = .ok (.getfield 27, 3) := by decide +kernel
theorem dX1_isHere_4 : decode cX1_isHere 4 = .ok (.aload_n 0, 1) := by decide +kernel
theorem dX1_isHere_5 : decode cX1_isHere 5 = .ok (.getfield 23, 3) := by decide +kernel
theorem dX1_isHere_8 : decode cX1_isHere 8 = .ok (.isub, 1) := by decide +kernel
theorem dX1_isHere_9 : decode cX1_isHere 9 = .ok (.aload_n 1, 1) := by decide +kernel
theorem dX1_isHere_10 : decode cX1_isHere 10 = .ok (.invokevirtual 93, 3) := by decide +kernel
theorem dX1_isHere_13 : decode cX1_isHere 13 = .ok (.if_icmp .eq 5, 3) := by decide +kernel
theorem dX1_isHere_16 : decode cX1_isHere 16 = .ok (.iconst 0, 1) := by decide +kernel
theorem dX1_isHere_17 : decode cX1_isHere 17 = .ok (.ireturn, 1) := by decide +kernel
theorem dX1_isHere_18 : decode cX1_isHere 18 = .ok (.iconst 0, 1) := by decide +kernel
theorem dX1_isHere_19 : decode cX1_isHere 19 = .ok (.istore_n 2, 1) := by decide +kernel
theorem dX1_isHere_20 : decode cX1_isHere 20 = .ok (.iload_n 2, 1) := by decide +kernel
theorem dX1_isHere_21 : decode cX1_isHere 21 = .ok (.aload_n 1, 1) := by decide +kernel
theorem dX1_isHere_22 : decode cX1_isHere 22 = .ok (.invokevirtual 93, 3) := by decide +kernel
theorem dX1_isHere_25 : decode cX1_isHere 25 = .ok (.if_icmp .ge 32, 3) := by decide +kernel
theorem dX1_isHere_28 : decode cX1_isHere 28 = .ok (.aload_n 0, 1) := by decide +kernel
theorem dX1_isHere_29 : decode cX1_isHere 29 = .ok (.getfield 14, 3) := by decide +kernel
theorem dX1_isHere_32 : decode cX1_isHere 32 = .ok (.aload_n 0, 1) := by decide +kernel
theorem dX1_isHere_33 : decode cX1_isHere 33 = .ok (.getfield 23, 3) := by decide +kernel
theorem dX1_isHere_36 : decode cX1_isHere 36 = .ok (.iload_n 2, 1) := by decide +kernel
theorem dX1_isHere_37 : decode cX1_isHere 37 = .ok (.iadd, 1) := by decide +kernel
theorem dX1_isHere_38 : decode cX1_isHere 38 = .ok (.invokevirtual 61, 3) := by decide +kernel
theorem dX1_isHere_41 : decode cX1_isHere 41 = .ok (.aload_n 1, 1) := by decide +kernel
theorem dX1_isHere_42 : decode cX1_isHere 42 = .ok (.iload_n 2, 1) := by decide +kernel
theorem dX1_isHere_43 : decode cX1_isHere 43 = .ok (.invokevirtual 98, 3) := by decide +kernel
theorem dX1_isHere_46 : decode cX1_isHere 46 = .ok (.if_icmp .eq 5, 3) := by decide +kernel
theorem dX1_isHere_49 : decode cX1_isHere 49 = .ok (.iconst 0, 1) := by decide +kernel
theorem dX1_isHere_50 : decode cX1_isHere 50 = .ok (.ireturn, 1) := by decide +kernel
theorem dX1_isHere_51 : decode cX1_isHere 51 = .ok (.iinc 2 1, 3) := by decide +kernel
theorem dX1_isHere_54 : decode cX1_isHere 54 = .ok (.goto (-34), 3) := by decide +kernel
theorem dX1_isHere_57 : decode cX1_isHere 57 = .ok (.iconst 1, 1) := by decide +kernel
theorem dX1_isHere_58 : decode cX1_isHere 58 = .ok (.ireturn, 1) := by decide +kernel
theorem dX1_isLetter_0 : decode cX1_isLetter 0 = .ok (.iload_n 0, 1) := by decide +kernel
theorem dX1_isLetter_1 : decode cX1_isLetter 1 = .ok (.bipush 97, 2) := by decide +kernel
theorem dX1_isLetter_3 : decode cX1_isLetter 3 = .ok (.if_icmp .lt 13, 3) := by decide +kernel
theorem dX1_isLetter_6 : decode cX1_isLetter 6 = .ok (.iload_n 0, 1) := by decide +kernel
theorem dX1_isLetter_7 : decode cX1_isLetter 7 = .ok (.bipush 122, 2) := by decide +kernel
theorem dX1_isLetter_9 : decode cX1_isLetter 9 = .ok (.if_icmp .gt 7, 3) := by decide +kernel
theorem dX1_isLetter_12 : decode cX1_isLetter 12 = .ok (.iconst 1, 1) := by decide +kernel
theorem dX1_isLetter_13 : decode cX1_isLetter 13 = .ok (.goto 4, 3) := by decide +kernel
theorem dX1_isLetter_16 : decode cX1_isLetter 16 = .ok (.iconst 0, 1) := by decide +kernel
theorem dX1_isLetter_17 : decode cX1_isLetter 17 = .ok (.ireturn, 1) := by decide +kernel
theorem dX1_isFigure_0 : decode cX1_isFigure 0 = .ok (.iload_n 0, 1) := by decide +kernel
theorem dX1_isFigure_1 : decode cX1_isFigure 1 = .ok (.bipush 48, 2) := by decide +kernel
theorem dX1_isFigure_3 : decode cX1_isFigure 3 = .ok (.if_icmp .lt 13, 3) := by decide +kernel
theorem dX1_isFigure_6 : decode cX1_isFigure 6 = .ok (.iload_n 0, 1) := by decide +kernel
theorem dX1_isFigure_7 : decode cX1_isFigure 7 = .ok (.bipush 57, 2) := by decide +kernel
theorem dX1_isFigure_9 : decode cX1_isFigure 9 = .ok (.if_icmp .gt 7, 3) := by decide +kernel
theorem dX1_isFigure_12 : decode cX1_isFigure 12 = .ok (.iconst 1, 1) := by decide +kernel
theorem dX1_isFigure_13 : decode cX1_isFigure 13 = .ok (.goto 4, 3) := by decide +kernel
theorem dX1_isFigure_16 : decode cX1_isFigure 16 = .ok (.iconst 0, 1) := by decide +kernel
theorem dX1_isFigure_17 : decode cX1_isFigure 17 = .ok (.ireturn, 1) := by decide +kernel
theorem dX1_refusedBy_0 : decode cX1_refusedBy 0 = .ok (.iconst 0, 1) := by decide +kernel
theorem dX1_refusedBy_1 : decode cX1_refusedBy 1 = .ok (.istore_n 2, 1) := by decide +kernel
theorem dX1_refusedBy_2 : decode cX1_refusedBy 2 = .ok (.iload_n 2, 1) := by decide +kernel
theorem dX1_refusedBy_3 : decode cX1_refusedBy 3 = .ok (.aload_n 0, 1) := by decide +kernel
theorem dX1_refusedBy_4 : decode cX1_refusedBy 4 = .ok (.invokevirtual 47, 3) := by decide +kernel
theorem dX1_refusedBy_7 : decode cX1_refusedBy 7 = .ok (.if_icmp .ge 38, 3) := by decide +kernel
theorem dX1_refusedBy_10 : decode cX1_refusedBy 10 = .ok (.aload_n 0, 1) := by decide +kernel
theorem dX1_refusedBy_11 : decode cX1_refusedBy 11 = .ok (.aload_n 1, 1) := by decide +kernel
theorem dX1_refusedBy_12 : decode cX1_refusedBy 12 = .ok (.iload_n 2, 1) := by decide +kernel
theorem dX1_refusedBy_13 : decode cX1_refusedBy 13 = .ok (.iconst 5, 1) := by decide +kernel
theorem dX1_refusedBy_14 : decode cX1_refusedBy 14 = .ok (.imul, 1) := by decide +kernel
theorem dX1_refusedBy_15 : decode cX1_refusedBy 15 = .ok (.invokevirtual 102, 3) := by decide +kernel
theorem dX1_refusedBy_18 : decode cX1_refusedBy 18 = .ok (.istore_n 3, 1) := by decide +kernel
theorem dX1_refusedBy_19 : decode cX1_refusedBy 19 = .ok (.iload_n 3, 1) := by decide +kernel
theorem dX1_refusedBy_20 : decode cX1_refusedBy 20 = .ok (.bipush (-2), 2) := by decide +kernel
theorem dX1_refusedBy_22 : decode cX1_refusedBy 22 = .ok (.if_icmp .eq 15, 3) := by decide +kernel
theorem dX1_refusedBy_25 : decode cX1_refusedBy 25 = .ok (.iload_n 3, 1) := by decide +kernel
theorem dX1_refusedBy_26 : decode cX1_refusedBy 26 = .ok (.bipush (-3), 2) := by decide +kernel
theorem dX1_refusedBy_28 : decode cX1_refusedBy 28 = .ok (.if_icmp .eq 9, 3) := by decide +kernel
theorem dX1_refusedBy_31 : decode cX1_refusedBy 31 = .ok (.iload_n 3, 1) := by decide +kernel
theorem dX1_refusedBy_32 : decode cX1_refusedBy 32 = .ok (.bipush (-4), 2) := by decide +kernel
theorem dX1_refusedBy_34 : decode cX1_refusedBy 34 = .ok (.if_icmp .ne 5, 3) := by decide +kernel
theorem dX1_refusedBy_37 : decode cX1_refusedBy 37 = .ok (.iload_n 2, 1) := by decide +kernel
theorem dX1_refusedBy_38 : decode cX1_refusedBy 38 = .ok (.ireturn, 1) := by decide +kernel
theorem dX1_refusedBy_39 : decode cX1_refusedBy 39 = .ok (.iinc 2 1, 3) := by decide +kernel
theorem dX1_refusedBy_42 : decode cX1_refusedBy 42 = .ok (.goto (-40), 3) := by decide +kernel
theorem dX1_refusedBy_45 : decode cX1_refusedBy 45 = .ok (.iconst (-1), 1) := by decide +kernel
theorem dX1_refusedBy_46 : decode cX1_refusedBy 46 = .ok (.ireturn, 1) := by decide +kernel
theorem dX1_tell_0 : decode cX1_tell 0 = .ok (.aload_n 0, 1) := by decide +kernel
theorem dX1_tell_1 : decode cX1_tell 1 = .ok (.getfield 20, 3) := by decide +kernel
theorem dX1_tell_4 : decode cX1_tell 4 = .ok (.iload_n 2, 1) := by decide +kernel
theorem dX1_tell_5 : decode cX1_tell 5 = .ok (.iconst 1, 1) := by decide +kernel
theorem dX1_tell_6 : decode cX1_tell 6 = .ok (.iadd, 1) := by decide +kernel
theorem dX1_tell_7 : decode cX1_tell 7 = .ok (.invokevirtual 61, 3) := by decide +kernel
theorem dX1_tell_10 : decode cX1_tell 10 = .ok (.istore_n 3, 1) := by decide +kernel
theorem dX1_tell_11 : decode cX1_tell 11 = .ok (.aload_n 0, 1) := by decide +kernel
theorem dX1_tell_12 : decode cX1_tell 12 = .ok (.getfield 20, 3) := by decide +kernel
theorem dX1_tell_15 : decode cX1_tell 15 = .ok (.iload_n 2, 1) := by decide +kernel
theorem dX1_tell_16 : decode cX1_tell 16 = .ok (.iconst 2, 1) := by decide +kernel
theorem dX1_tell_17 : decode cX1_tell 17 = .ok (.iadd, 1) := by decide +kernel
theorem dX1_tell_18 : decode cX1_tell 18 = .ok (.invokevirtual 61, 3) := by decide +kernel
theorem dX1_tell_21 : decode cX1_tell 21 = .ok (.istore 4, 2) := by decide +kernel
theorem dX1_tell_23 : decode cX1_tell 23 = .ok (.aload_n 0, 1) := by decide +kernel
theorem dX1_tell_24 : decode cX1_tell 24 = .ok (.getfield 20, 3) := by decide +kernel
theorem dX1_tell_27 : decode cX1_tell 27 = .ok (.iload_n 2, 1) := by decide +kernel
theorem dX1_tell_28 : decode cX1_tell 28 = .ok (.invokevirtual 61, 3) := by decide +kernel
theorem dX1_tell_31 : decode cX1_tell 31 = .ok (.tableswitch 78 5 8 #[29, 35, 63, 70], 29) := by decide +kernel
theorem dX1_tell_60 : decode cX1_tell 60 = .ok (.aload_n 1, 1) := by decide +kernel
theorem dX1_tell_61 : decode cX1_tell 61 = .ok (.iload_n 3, 1) := by decide +kernel
theorem dX1_tell_62 : decode cX1_tell 62 = .ok (.invokevirtual 106, 3) := by decide +kernel
theorem dX1_tell_65 : decode cX1_tell 65 = .ok (.ireturn, 1) := by decide +kernel
theorem dX1_tell_66 : decode cX1_tell 66 = .ok (.aload_n 1, 1) := by decide +kernel
theorem dX1_tell_67 : decode cX1_tell 67 = .ok (.iload_n 3, 1) := by decide +kernel
theorem dX1_tell_68 : decode cX1_tell 68 = .ok (.iload 4, 2) := by decide +kernel
theorem dX1_tell_70 : decode cX1_tell 70 = .ok (.aload_n 0, 1) := by decide +kernel
theorem dX1_tell_71 : decode cX1_tell 71 = .ok (.getfield 20, 3) := by decide +kernel
theorem dX1_tell_74 : decode cX1_tell 74 = .ok (.iload_n 2, 1) := by decide +kernel
theorem dX1_tell_75 : decode cX1_tell 75 = .ok (.iconst 3, 1) := by decide +kernel
theorem dX1_tell_76 : decode cX1_tell 76 = .ok (.iadd, 1) := by decide +kernel
theorem dX1_tell_77 : decode cX1_tell 77 = .ok (.invokevirtual 61, 3) := by decide +kernel
theorem dX1_tell_80 : decode cX1_tell 80 = .ok (.aload_n 0, 1) := by decide +kernel
theorem dX1_tell_81 : decode cX1_tell 81 = .ok (.getfield 20, 3) := by decide +kernel
theorem dX1_tell_84 : decode cX1_tell 84 = .ok (.iload_n 2, 1) := by decide +kernel
theorem dX1_tell_85 : decode cX1_tell 85 = .ok (.iconst 4, 1) := by decide +kernel
theorem dX1_tell_86 : decode cX1_tell 86 = .ok (.iadd, 1) := by decide +kernel
theorem dX1_tell_87 : decode cX1_tell 87 = .ok (.invokevirtual 61, 3) := by decide +kernel
theorem dX1_tell_90 : decode cX1_tell 90 = .ok (.invokevirtual 111, 3) := by decide +kernel
theorem dX1_tell_93 : decode cX1_tell 93 = .ok (.ireturn, 1) := by decide +kernel
theorem dX1_tell_94 : decode cX1_tell 94 = .ok (.aload_n 1, 1) := by decide +kernel
theorem dX1_tell_95 : decode cX1_tell 95 = .ok (.iload_n 3, 1) := by decide +kernel
theorem dX1_tell_96 : decode cX1_tell 96 = .ok (.iconst 1, 1) := by decide +kernel
theorem dX1_tell_97 : decode cX1_tell 97 = .ok (.invokevirtual 115, 3) := by decide +kernel
theorem dX1_tell_100 : decode cX1_tell 100 = .ok (.ireturn, 1) := by decide +kernel
theorem dX1_tell_101 : decode cX1_tell 101 = .ok (.aload_n 1, 1) := by decide +kernel
theorem dX1_tell_102 : decode cX1_tell 102 = .ok (.iload_n 3, 1) := by decide +kernel
theorem dX1_tell_103 : decode cX1_tell 103 = .ok (.iload 4, 2) := by decide +kernel
theorem dX1_tell_105 : decode cX1_tell 105 = .ok (.invokevirtual 119, 3) := by decide +kernel
theorem dX1_tell_108 : decode cX1_tell 108 = .ok (.ireturn, 1) := by decide +kernel
theorem dX1_tell_109 : decode cX1_tell 109 = .ok (.aload_n 1, 1) := by decide +kernel
theorem dX1_tell_110 : decode cX1_tell 110 = .ok (.iload_n 3, 1) := by decide +kernel
theorem dX1_tell_111 : decode cX1_tell 111 = .ok (.invokevirtual 123, 3) := by decide +kernel
theorem dX1_tell_114 : decode cX1_tell 114 = .ok (.ireturn, 1) := by decide +kernel
theorem dX2_init_0 : decode cX2_init 0 = .ok (.aload_n 0, 1) := by decide +kernel
theorem dX2_init_1 : decode cX2_init 1 = .ok (.invokespecial 1, 3) := by decide +kernel
theorem dX2_init_4 : decode cX2_init 4 = .ok (.aload_n 0, 1) := by decide +kernel
theorem dX2_init_5 : decode cX2_init 5 = .ok (.iconst 0, 1) := by decide +kernel
theorem dX2_init_6 : decode cX2_init 6 = .ok (.putfield 7, 3) := by decide +kernel
theorem dX2_init_9 : decode cX2_init 9 = .ok (.aload_n 0, 1) := by decide +kernel
theorem dX2_init_10 : decode cX2_init 10 = .ok (.iconst 0, 1) := by decide +kernel
theorem dX2_init_11 : decode cX2_init 11 = .ok (.iload_n 1, 1) := by decide +kernel
theorem dX2_init_12 : decode cX2_init 12 = .ok (.invokestatic 13, 3) := by decide +kernel
theorem dX2_init_15 : decode cX2_init 15 = .ok (.newarray .int, 2) := by decide +kernel
theorem dX2_init_17 : decode cX2_init 17 = .ok (.putfield 19, 3) := by decide +kernel
theorem dX2_init_20 : decode cX2_init 20 = .ok (.return_, 1) := by decide +kernel
theorem dX2_size_0 : decode cX2_size 0 = .ok (.aload_n 0, 1) := by decide +kernel
theorem dX2_size_1 : decode cX2_size 1 = .ok (.getfield 7, 3) := by decide +kernel
theorem dX2_size_4 : decode cX2_size 4 = .ok (.ireturn, 1) := by decide +kernel
theorem dX2_isFull_0 : decode cX2_isFull 0 = .ok (.aload_n 0, 1) := by decide +kernel
theorem dX2_isFull_1 : decode cX2_isFull 1 = .ok (.getfield 7, 3) := by decide +kernel
theorem dX2_isFull_4 : decode cX2_isFull 4 = .ok (.aload_n 0, 1) := by decide +kernel
theorem dX2_isFull_5 : decode cX2_isFull 5 = .ok (.getfield 19, 3) := by decide +kernel
theorem dX2_isFull_8 : decode cX2_isFull 8 = .ok (.arraylength, 1) := by decide +kernel
theorem dX2_isFull_9 : decode cX2_isFull 9 = .ok (.if_icmp .lt 7, 3) := by decide +kernel
theorem dX2_isFull_12 : decode cX2_isFull 12 = .ok (.iconst 1, 1) := by decide +kernel
theorem dX2_isFull_13 : decode cX2_isFull 13 = .ok (.goto 4, 3) := by decide +kernel
theorem dX2_isFull_16 : decode cX2_isFull 16 = .ok (.iconst 0, 1) := by decide +kernel
theorem dX2_isFull_17 : decode cX2_isFull 17 = .ok (.ireturn, 1) := by decide +kernel
theorem dX2_holds_0 : decode cX2_holds 0 = .ok (.iload_n 1, 1) := by decide +kernel
theorem dX2_holds_1 : decode cX2_holds 1 = .ok (.ifCond .lt 24, 3) := by decide +kernel
theorem dX2_holds_4 : decode cX2_holds 4 = .ok (.iload_n 1, 1) := by decide +kernel
theorem dX2_holds_5 : decode cX2_holds 5 = .ok (.aload_n 0, 1) := by decide +kernel
theorem dX2_holds_6 : decode cX2_holds 6 = .ok (.getfield 7, 3) := by decide +kernel
theorem dX2_holds_9 : decode cX2_holds 9 = .ok (.if_icmp .ge 16, 3) := by decide +kernel
theorem dX2_holds_12 : decode cX2_holds 12 = .ok (.iload_n 1, 1) := by decide +kernel
theorem dX2_holds_13 : decode cX2_holds 13 = .ok (.aload_n 0, 1) := by decide +kernel
theorem dX2_holds_14 : decode cX2_holds 14 = .ok (.getfield 19, 3) := by decide +kernel
theorem dX2_holds_17 : decode cX2_holds 17 = .ok (.arraylength, 1) := by decide +kernel
theorem dX2_holds_18 : decode cX2_holds 18 = .ok (.if_icmp .ge 7, 3) := by decide +kernel
theorem dX2_holds_21 : decode cX2_holds 21 = .ok (.iconst 1, 1) := by decide +kernel
theorem dX2_holds_22 : decode cX2_holds 22 = .ok (.goto 4, 3) := by decide +kernel
theorem dX2_holds_25 : decode cX2_holds 25 = .ok (.iconst 0, 1) := by decide +kernel
theorem dX2_holds_26 : decode cX2_holds 26 = .ok (.ireturn, 1) := by decide +kernel
theorem dX2_at_0 : decode cX2_at 0 = .ok (.iload_n 1, 1) := by decide +kernel
theorem dX2_at_1 : decode cX2_at 1 = .ok (.ifCond .lt 29, 3) := by decide +kernel
theorem dX2_at_4 : decode cX2_at 4 = .ok (.iload_n 1, 1) := by decide +kernel
theorem dX2_at_5 : decode cX2_at 5 = .ok (.aload_n 0, 1) := by decide +kernel
theorem dX2_at_6 : decode cX2_at 6 = .ok (.getfield 7, 3) := by decide +kernel
theorem dX2_at_9 : decode cX2_at 9 = .ok (.if_icmp .ge 21, 3) := by decide +kernel
theorem dX2_at_12 : decode cX2_at 12 = .ok (.iload_n 1, 1) := by decide +kernel
theorem dX2_at_13 : decode cX2_at 13 = .ok (.aload_n 0, 1) := by decide +kernel
theorem dX2_at_14 : decode cX2_at 14 = .ok (.getfield 19, 3) := by decide +kernel
theorem dX2_at_17 : decode cX2_at 17 = .ok (.arraylength, 1) := by decide +kernel
theorem dX2_at_18 : decode cX2_at 18 = .ok (.if_icmp .ge 12, 3) := by decide +kernel
theorem dX2_at_21 : decode cX2_at 21 = .ok (.aload_n 0, 1) := by decide +kernel
theorem dX2_at_22 : decode cX2_at 22 = .ok (.getfield 19, 3) := by decide +kernel
theorem dX2_at_25 : decode cX2_at 25 = .ok (.iload_n 1, 1) := by decide +kernel
theorem dX2_at_26 : decode cX2_at 26 = .ok (.iaload, 1) := by decide +kernel
theorem dX2_at_27 : decode cX2_at 27 = .ok (.goto 4, 3) := by decide +kernel
theorem dX2_at_30 : decode cX2_at 30 = .ok (.iconst 0, 1) := by decide +kernel
theorem dX2_at_31 : decode cX2_at 31 = .ok (.ireturn, 1) := by decide +kernel
theorem dX2_set_0 : decode cX2_set 0 = .ok (.iload_n 1, 1) := by decide +kernel
theorem dX2_set_1 : decode cX2_set 1 = .ok (.ifCond .lt 27, 3) := by decide +kernel
theorem dX2_set_4 : decode cX2_set 4 = .ok (.iload_n 1, 1) := by decide +kernel
theorem dX2_set_5 : decode cX2_set 5 = .ok (.aload_n 0, 1) := by decide +kernel
theorem dX2_set_6 : decode cX2_set 6 = .ok (.getfield 7, 3) := by decide +kernel
theorem dX2_set_9 : decode cX2_set 9 = .ok (.if_icmp .ge 19, 3) := by decide +kernel
theorem dX2_set_12 : decode cX2_set 12 = .ok (.iload_n 1, 1) := by decide +kernel
theorem dX2_set_13 : decode cX2_set 13 = .ok (.aload_n 0, 1) := by decide +kernel
theorem dX2_set_14 : decode cX2_set 14 = .ok (.getfield 19, 3) := by decide +kernel
theorem dX2_set_17 : decode cX2_set 17 = .ok (.arraylength, 1) := by decide +kernel
theorem dX2_set_18 : decode cX2_set 18 = .ok (.if_icmp .ge 10, 3) := by decide +kernel
theorem dX2_set_21 : decode cX2_set 21 = .ok (.aload_n 0, 1) := by decide +kernel
theorem dX2_set_22 : decode cX2_set 22 = .ok (.getfield 19, 3) := by decide +kernel
theorem dX2_set_25 : decode cX2_set 25 = .ok (.iload_n 1, 1) := by decide +kernel
theorem dX2_set_26 : decode cX2_set 26 = .ok (.iload_n 2, 1) := by decide +kernel
theorem dX2_set_27 : decode cX2_set 27 = .ok (.iastore, 1) := by decide +kernel
theorem dX2_set_28 : decode cX2_set 28 = .ok (.return_, 1) := by decide +kernel
theorem dX2_add_0 : decode cX2_add 0 = .ok (.aload_n 0, 1) := by decide +kernel
theorem dX2_add_1 : decode cX2_add 1 = .ok (.getfield 7, 3) := by decide +kernel
theorem dX2_add_4 : decode cX2_add 4 = .ok (.ifCond .lt 15, 3) := by decide +kernel
theorem dX2_add_7 : decode cX2_add 7 = .ok (.aload_n 0, 1) := by decide +kernel
theorem dX2_add_8 : decode cX2_add 8 = .ok (.getfield 7, 3) := by decide +kernel
theorem dX2_add_11 : decode cX2_add 11 = .ok (.aload_n 0, 1) := by decide +kernel
theorem dX2_add_12 : decode cX2_add 12 = .ok (.getfield 19, 3) := by decide +kernel
theorem dX2_add_15 : decode cX2_add 15 = .ok (.arraylength, 1) := by decide +kernel
theorem dX2_add_16 : decode cX2_add 16 = .ok (.if_icmp .lt 4, 3) := by decide +kernel
theorem dX2_add_19 : decode cX2_add 19 = .ok (.return_, 1) := by decide +kernel
theorem dX2_add_20 : decode cX2_add 20 = .ok (.aload_n 0, 1) := by decide +kernel
theorem dX2_add_21 : decode cX2_add 21 = .ok (.getfield 19, 3) := by decide +kernel
theorem dX2_add_24 : decode cX2_add 24 = .ok (.aload_n 0, 1) := by decide +kernel
theorem dX2_add_25 : decode cX2_add 25 = .ok (.getfield 7, 3) := by decide +kernel
theorem dX2_add_28 : decode cX2_add 28 = .ok (.iload_n 1, 1) := by decide +kernel
theorem dX2_add_29 : decode cX2_add 29 = .ok (.iastore, 1) := by decide +kernel
theorem dX2_add_30 : decode cX2_add 30 = .ok (.aload_n 0, 1) := by decide +kernel
theorem dX2_add_31 : decode cX2_add 31 = .ok (.dup, 1) := by decide +kernel
theorem dX2_add_32 : decode cX2_add 32 = .ok (.getfield 7, 3) := by decide +kernel
theorem dX2_add_35 : decode cX2_add 35 = .ok (.iconst 1, 1) := by decide +kernel
theorem dX2_add_36 : decode cX2_add 36 = .ok (.iadd, 1) := by decide +kernel
theorem dX2_add_37 : decode cX2_add 37 = .ok (.putfield 7, 3) := by decide +kernel
theorem dX2_add_40 : decode cX2_add 40 = .ok (.return_, 1) := by decide +kernel
theorem dX2_takeLast_0 : decode cX2_takeLast 0 = .ok (.aload_n 0, 1) := by decide +kernel
theorem dX2_takeLast_1 : decode cX2_takeLast 1 = .ok (.aload_n 0, 1) := by decide +kernel
theorem dX2_takeLast_2 : decode cX2_takeLast 2 = .ok (.getfield 7, 3) := by decide +kernel
theorem dX2_takeLast_5 : decode cX2_takeLast 5 = .ok (.iconst 1, 1) := by decide +kernel
theorem dX2_takeLast_6 : decode cX2_takeLast 6 = .ok (.isub, 1) := by decide +kernel
theorem dX2_takeLast_7 : decode cX2_takeLast 7 = .ok (.invokevirtual 23, 3) := by decide +kernel
theorem dX2_takeLast_10 : decode cX2_takeLast 10 = .ok (.istore_n 1, 1) := by decide +kernel
theorem dX2_takeLast_11 : decode cX2_takeLast 11 = .ok (.aload_n 0, 1) := by decide +kernel
theorem dX2_takeLast_12 : decode cX2_takeLast 12 = .ok (.iconst 0, 1) := by decide +kernel
theorem dX2_takeLast_13 : decode cX2_takeLast 13 = .ok (.aload_n 0, 1) := by decide +kernel
theorem dX2_takeLast_14 : decode cX2_takeLast 14 = .ok (.getfield 7, 3) := by decide +kernel
theorem dX2_takeLast_17 : decode cX2_takeLast 17 = .ok (.iconst 1, 1) := by decide +kernel
theorem dX2_takeLast_18 : decode cX2_takeLast 18 = .ok (.isub, 1) := by decide +kernel
theorem dX2_takeLast_19 : decode cX2_takeLast 19 = .ok (.invokestatic 13, 3) := by decide +kernel
theorem dX2_takeLast_22 : decode cX2_takeLast 22 = .ok (.putfield 7, 3) := by decide +kernel
theorem dX2_takeLast_25 : decode cX2_takeLast 25 = .ok (.iload_n 1, 1) := by decide +kernel
theorem dX2_takeLast_26 : decode cX2_takeLast 26 = .ok (.ireturn, 1) := by decide +kernel
theorem dX2_dropFirst_0 : decode cX2_dropFirst 0 = .ok (.iconst 1, 1) := by decide +kernel
theorem dX2_dropFirst_1 : decode cX2_dropFirst 1 = .ok (.istore_n 1, 1) := by decide +kernel
theorem dX2_dropFirst_2 : decode cX2_dropFirst 2 = .ok (.iload_n 1, 1) := by decide +kernel
theorem dX2_dropFirst_3 : decode cX2_dropFirst 3 = .ok (.aload_n 0, 1) := by decide +kernel
theorem dX2_dropFirst_4 : decode cX2_dropFirst 4 = .ok (.getfield 7, 3) := by decide +kernel
theorem dX2_dropFirst_7 : decode cX2_dropFirst 7 = .ok (.if_icmp .ge 21, 3) := by decide +kernel
theorem dX2_dropFirst_10 : decode cX2_dropFirst 10 = .ok (.aload_n 0, 1) := by decide +kernel
theorem dX2_dropFirst_11 : decode cX2_dropFirst 11 = .ok (.iload_n 1, 1) := by decide +kernel
theorem dX2_dropFirst_12 : decode cX2_dropFirst 12 = .ok (.iconst 1, 1) := by decide +kernel
theorem dX2_dropFirst_13 : decode cX2_dropFirst 13 = .ok (.isub, 1) := by decide +kernel
theorem dX2_dropFirst_14 : decode cX2_dropFirst 14 = .ok (.aload_n 0, 1) := by decide +kernel
theorem dX2_dropFirst_15 : decode cX2_dropFirst 15 = .ok (.iload_n 1, 1) := by decide +kernel
theorem dX2_dropFirst_16 : decode cX2_dropFirst 16 = .ok (.invokevirtual 23, 3) := by decide +kernel
theorem dX2_dropFirst_19 : decode cX2_dropFirst 19 = .ok (.invokevirtual 27, 3) := by decide +kernel
theorem dX2_dropFirst_22 : decode cX2_dropFirst 22 = .ok (.iinc 1 1, 3) := by decide +kernel
theorem dX2_dropFirst_25 : decode cX2_dropFirst 25 = .ok (.goto (-23), 3) := by decide +kernel
theorem dX2_dropFirst_28 : decode cX2_dropFirst 28 = .ok (.aload_n 0, 1) := by decide +kernel
theorem dX2_dropFirst_29 : decode cX2_dropFirst 29 = .ok (.iconst 0, 1) := by decide +kernel
theorem dX2_dropFirst_30 : decode cX2_dropFirst 30 = .ok (.aload_n 0, 1) := by decide +kernel
theorem dX2_dropFirst_31 : decode cX2_dropFirst 31 = .ok (.getfield 7, 3) := by decide +kernel
theorem dX2_dropFirst_34 : decode cX2_dropFirst 34 = .ok (.iconst 1, 1) := by decide +kernel
theorem dX2_dropFirst_35 : decode cX2_dropFirst 35 = .ok (.isub, 1) := by decide +kernel
theorem dX2_dropFirst_36 : decode cX2_dropFirst 36 = .ok (.invokestatic 13, 3) := by decide +kernel
theorem dX2_dropFirst_39 : decode cX2_dropFirst 39 = .ok (.putfield 7, 3) := by decide +kernel
theorem dX2_dropFirst_42 : decode cX2_dropFirst 42 = .ok (.return_, 1) := by decide +kernel
theorem dX2_drop_0 : decode cX2_drop 0 = .ok (.aload_n 0, 1) := by decide +kernel
theorem dX2_drop_1 : decode cX2_drop 1 = .ok (.iconst 0, 1) := by decide +kernel
theorem dX2_drop_2 : decode cX2_drop 2 = .ok (.putfield 7, 3) := by decide +kernel
theorem dX2_drop_5 : decode cX2_drop 5 = .ok (.return_, 1) := by decide +kernel
theorem dX2_fill_0 : decode cX2_fill 0 = .ok (.aload_n 0, 1) := by decide +kernel
theorem dX2_fill_1 : decode cX2_fill 1 = .ok (.iconst 0, 1) := by decide +kernel
theorem dX2_fill_2 : decode cX2_fill 2 = .ok (.iload_n 1, 1) := by decide +kernel
theorem dX2_fill_3 : decode cX2_fill 3 = .ok (.aload_n 0, 1) := by decide +kernel
theorem dX2_fill_4 : decode cX2_fill 4 = .ok (.getfield 19, 3) := by decide +kernel
theorem dX2_fill_7 : decode cX2_fill 7 = .ok (.arraylength, 1) := by decide +kernel
theorem dX2_fill_8 : decode cX2_fill 8 = .ok (.invokestatic 31, 3) := by decide +kernel
theorem dX2_fill_11 : decode cX2_fill 11 = .ok (.invokestatic 13, 3) := by decide +kernel
theorem dX2_fill_14 : decode cX2_fill 14 = .ok (.putfield 7, 3) := by decide +kernel
theorem dX2_fill_17 : decode cX2_fill 17 = .ok (.iconst 0, 1) := by decide +kernel
theorem dX2_fill_18 : decode cX2_fill 18 = .ok (.istore_n 3, 1) := by decide +kernel
theorem dX2_fill_19 : decode cX2_fill 19 = .ok (.iload_n 3, 1) := by decide +kernel
theorem dX2_fill_20 : decode cX2_fill 20 = .ok (.aload_n 0, 1) := by decide +kernel
theorem dX2_fill_21 : decode cX2_fill 21 = .ok (.getfield 7, 3) := by decide +kernel
theorem dX2_fill_24 : decode cX2_fill 24 = .ok (.if_icmp .ge 25, 3) := by decide +kernel
theorem dX2_fill_27 : decode cX2_fill 27 = .ok (.iload_n 3, 1) := by decide +kernel
theorem dX2_fill_28 : decode cX2_fill 28 = .ok (.aload_n 0, 1) := by decide +kernel
theorem dX2_fill_29 : decode cX2_fill 29 = .ok (.getfield 19, 3) := by decide +kernel
theorem dX2_fill_32 : decode cX2_fill 32 = .ok (.arraylength, 1) := by decide +kernel
theorem dX2_fill_33 : decode cX2_fill 33 = .ok (.if_icmp .ge 16, 3) := by decide +kernel
theorem dX2_fill_36 : decode cX2_fill 36 = .ok (.aload_n 0, 1) := by decide +kernel
theorem dX2_fill_37 : decode cX2_fill 37 = .ok (.getfield 19, 3) := by decide +kernel
theorem dX2_fill_40 : decode cX2_fill 40 = .ok (.iload_n 3, 1) := by decide +kernel
theorem dX2_fill_41 : decode cX2_fill 41 = .ok (.iload_n 2, 1) := by decide +kernel
theorem dX2_fill_42 : decode cX2_fill 42 = .ok (.iastore, 1) := by decide +kernel
theorem dX2_fill_43 : decode cX2_fill 43 = .ok (.iinc 3 1, 3) := by decide +kernel
theorem dX2_fill_46 : decode cX2_fill 46 = .ok (.goto (-27), 3) := by decide +kernel
theorem dX2_fill_49 : decode cX2_fill 49 = .ok (.return_, 1) := by decide +kernel
theorem dX2_copyFrom_0 : decode cX2_copyFrom 0 = .ok (.aload_n 0, 1) := by decide +kernel
theorem dX2_copyFrom_1 : decode cX2_copyFrom 1 = .ok (.iconst 0, 1) := by decide +kernel
theorem dX2_copyFrom_2 : decode cX2_copyFrom 2 = .ok (.putfield 7, 3) := by decide +kernel
theorem dX2_copyFrom_5 : decode cX2_copyFrom 5 = .ok (.iconst 0, 1) := by decide +kernel
theorem dX2_copyFrom_6 : decode cX2_copyFrom 6 = .ok (.istore_n 2, 1) := by decide +kernel
theorem dX2_copyFrom_7 : decode cX2_copyFrom 7 = .ok (.iload_n 2, 1) := by decide +kernel
theorem dX2_copyFrom_8 : decode cX2_copyFrom 8 = .ok (.aload_n 1, 1) := by decide +kernel
theorem dX2_copyFrom_9 : decode cX2_copyFrom 9 = .ok (.getfield 7, 3) := by decide +kernel
theorem dX2_copyFrom_12 : decode cX2_copyFrom 12 = .ok (.if_icmp .ge 18, 3) := by decide +kernel
theorem dX2_copyFrom_15 : decode cX2_copyFrom 15 = .ok (.aload_n 0, 1) := by decide +kernel
theorem dX2_copyFrom_16 : decode cX2_copyFrom 16 = .ok (.aload_n 1, 1) := by decide +kernel
theorem dX2_copyFrom_17 : decode cX2_copyFrom 17 = .ok (.iload_n 2, 1) := by decide +kernel
theorem dX2_copyFrom_18 : decode cX2_copyFrom 18 = .ok (.invokevirtual 23, 3) := by decide +kernel
theorem dX2_copyFrom_21 : decode cX2_copyFrom 21 = .ok (.invokevirtual 34, 3) := by decide +kernel
theorem dX2_copyFrom_24 : decode cX2_copyFrom 24 = .ok (.iinc 2 1, 3) := by decide +kernel
theorem dX2_copyFrom_27 : decode cX2_copyFrom 27 = .ok (.goto (-20), 3) := by decide +kernel
theorem dX2_copyFrom_30 : decode cX2_copyFrom 30 = .ok (.return_, 1) := by decide +kernel
end
section
theorem dX3_init_0 : decode cX3_init 0 = .ok (.aload_n 0, 1) := by decide +kernel
theorem dX3_init_1 : decode cX3_init 1 = .ok (.invokespecial 3, 3) := by decide +kernel
theorem dX3_init_4 : decode cX3_init 4 = .ok (.aload_n 0, 1) := by decide +kernel
theorem dX3_init_5 : decode cX3_init 5 = .ok (.new 9, 3) := by decide +kernel
theorem dX3_init_8 : decode cX3_init 8 = .ok (.dup, 1) := by decide +kernel
theorem dX3_init_9 : decode cX3_init 9 = .ok (.sipush 15309, 3) := by decide +kernel
theorem dX3_init_12 : decode cX3_init 12 = .ok (.invokespecial 11, 3) := by decide +kernel
theorem dX3_init_15 : decode cX3_init 15 = .ok (.putfield 14, 3) := by decide +kernel
theorem dX3_init_18 : decode cX3_init 18 = .ok (.aload_n 0, 1) := by decide +kernel
theorem dX3_init_19 : decode cX3_init 19 = .ok (.new 9, 3) := by decide +kernel
theorem dX3_init_22 : decode cX3_init 22 = .ok (.dup, 1) := by decide +kernel
theorem dX3_init_23 : decode cX3_init 23 = .ok (.sipush 2187, 3) := by decide +kernel
theorem dX3_init_26 : decode cX3_init 26 = .ok (.invokespecial 11, 3) := by decide +kernel
theorem dX3_init_29 : decode cX3_init 29 = .ok (.putfield 20, 3) := by decide +kernel
theorem dX3_init_32 : decode cX3_init 32 = .ok (.aload_n 0, 1) := by decide +kernel
theorem dX3_init_33 : decode cX3_init 33 = .ok (.new 9, 3) := by decide +kernel
theorem dX3_init_36 : decode cX3_init 36 = .ok (.dup, 1) := by decide +kernel
theorem dX3_init_37 : decode cX3_init 37 = .ok (.sipush 2187, 3) := by decide +kernel
theorem dX3_init_40 : decode cX3_init 40 = .ok (.invokespecial 11, 3) := by decide +kernel
theorem dX3_init_43 : decode cX3_init 43 = .ok (.putfield 23, 3) := by decide +kernel
theorem dX3_init_46 : decode cX3_init 46 = .ok (.aload_n 0, 1) := by decide +kernel
theorem dX3_init_47 : decode cX3_init 47 = .ok (.new 9, 3) := by decide +kernel
theorem dX3_init_50 : decode cX3_init 50 = .ok (.dup, 1) := by decide +kernel
theorem dX3_init_51 : decode cX3_init 51 = .ok (.sipush 2187, 3) := by decide +kernel
theorem dX3_init_54 : decode cX3_init 54 = .ok (.invokespecial 11, 3) := by decide +kernel
theorem dX3_init_57 : decode cX3_init 57 = .ok (.putfield 26, 3) := by decide +kernel
theorem dX3_init_60 : decode cX3_init 60 = .ok (.aload_n 0, 1) := by decide +kernel
theorem dX3_init_61 : decode cX3_init 61 = .ok (.new 9, 3) := by decide +kernel
theorem dX3_init_64 : decode cX3_init 64 = .ok (.dup, 1) := by decide +kernel
theorem dX3_init_65 : decode cX3_init 65 = .ok (.sipush 2187, 3) := by decide +kernel
theorem dX3_init_68 : decode cX3_init 68 = .ok (.invokespecial 11, 3) := by decide +kernel
theorem dX3_init_71 : decode cX3_init 71 = .ok (.putfield 29, 3) := by decide +kernel
theorem dX3_init_74 : decode cX3_init 74 = .ok (.aload_n 0, 1) := by decide +kernel
theorem dX3_init_75 : decode cX3_init 75 = .ok (.iconst 0, 1) := by decide +kernel
theorem dX3_init_76 : decode cX3_init 76 = .ok (.putfield 32, 3) := by decide +kernel
theorem dX3_init_79 : decode cX3_init 79 = .ok (.aload_n 0, 1) := by decide +kernel
theorem dX3_init_80 : decode cX3_init 80 = .ok (.iconst 0, 1) := by decide +kernel
theorem dX3_init_81 : decode cX3_init 81 = .ok (.putfield 36, 3) := by decide +kernel
theorem dX3_init_84 : decode cX3_init 84 = .ok (.aload_n 0, 1) := by decide +kernel
theorem dX3_init_85 : decode cX3_init 85 = .ok (.iconst 0, 1) := by decide +kernel
theorem dX3_init_86 : decode cX3_init 86 = .ok (.putfield 40, 3) := by decide +kernel
theorem dX3_init_89 : decode cX3_init 89 = .ok (.aload_n 0, 1) := by decide +kernel
theorem dX3_init_90 : decode cX3_init 90 = .ok (.iconst (-1), 1) := by decide +kernel
theorem dX3_init_91 : decode cX3_init 91 = .ok (.putfield 43, 3) := by decide +kernel
theorem dX3_init_94 : decode cX3_init 94 = .ok (.aload_n 0, 1) := by decide +kernel
theorem dX3_init_95 : decode cX3_init 95 = .ok (.iconst (-1), 1) := by decide +kernel
theorem dX3_init_96 : decode cX3_init 96 = .ok (.putfield 46, 3) := by decide +kernel
theorem dX3_init_99 : decode cX3_init 99 = .ok (.aload_n 0, 1) := by decide +kernel
theorem dX3_init_100 : decode cX3_init 100 = .ok (.iconst 0, 1) := by decide +kernel
theorem dX3_init_101 : decode cX3_init 101 = .ok (.putfield 49, 3) := by decide +kernel
theorem dX3_init_104 : decode cX3_init 104 = .ok (.aload_n 0, 1) := by decide +kernel
theorem dX3_init_105 : decode cX3_init 105 = .ok (.getfield 14, 3) := by decide +kernel
theorem dX3_init_108 : decode cX3_init 108 = .ok (.sipush 15309, 3) := by decide +kernel
theorem dX3_init_111 : decode cX3_init 111 = .ok (.iconst 0, 1) := by decide +kernel
theorem dX3_init_112 : decode cX3_init 112 = .ok (.invokevirtual 52, 3) := by decide +kernel
theorem dX3_init_115 : decode cX3_init 115 = .ok (.aload_n 0, 1) := by decide +kernel
theorem dX3_init_116 : decode cX3_init 116 = .ok (.getfield 23, 3) := by decide +kernel
theorem dX3_init_119 : decode cX3_init 119 = .ok (.sipush 2187, 3) := by decide +kernel
theorem dX3_init_122 : decode cX3_init 122 = .ok (.iconst 0, 1) := by decide +kernel
theorem dX3_init_123 : decode cX3_init 123 = .ok (.invokevirtual 52, 3) := by decide +kernel
theorem dX3_init_126 : decode cX3_init 126 = .ok (.aload_n 0, 1) := by decide +kernel
theorem dX3_init_127 : decode cX3_init 127 = .ok (.getfield 26, 3) := by decide +kernel
theorem dX3_init_130 : decode cX3_init 130 = .ok (.sipush 2187, 3) := by decide +kernel
theorem dX3_init_133 : decode cX3_init 133 = .ok (.iconst 0, 1) := by decide +kernel
theorem dX3_init_134 : decode cX3_init 134 = .ok (.invokevirtual 52, 3) := by decide +kernel
theorem dX3_init_137 : decode cX3_init 137 = .ok (.return_, 1) := by decide +kernel
theorem dX3_learn_0 : decode cX3_learn 0 = .ok (.aload_n 0, 1) := by decide +kernel
theorem dX3_learn_1 : decode cX3_learn 1 = .ok (.getfield 32, 3) := by decide +kernel
theorem dX3_learn_4 : decode cX3_learn 4 = .ok (.ifCond .eq 4, 3) := by decide +kernel
theorem dX3_learn_7 : decode cX3_learn 7 = .ok (.return_, 1) := by decide +kernel
theorem dX3_learn_8 : decode cX3_learn 8 = .ok (.aload_n 0, 1) := by decide +kernel
theorem dX3_learn_9 : decode cX3_learn 9 = .ok (.iconst 1, 1) := by decide +kernel
theorem dX3_learn_10 : decode cX3_learn 10 = .ok (.putfield 32, 3) := by decide +kernel
theorem dX3_learn_13 : decode cX3_learn 13 = .ok (.aload_n 0, 1) := by decide +kernel
theorem dX3_learn_14 : decode cX3_learn 14 = .ok (.aload_n 1, 1) := by decide +kernel
theorem dX3_learn_15 : decode cX3_learn 15 = .ok (.getfield 56, 3) := by decide +kernel
theorem dX3_learn_18 : decode cX3_learn 18 = .ok (.putfield 36, 3) := by decide +kernel
theorem dX3_learn_21 : decode cX3_learn 21 = .ok (.aload_n 0, 1) := by decide +kernel
theorem dX3_learn_22 : decode cX3_learn 22 = .ok (.aload_n 1, 1) := by decide +kernel
theorem dX3_learn_23 : decode cX3_learn 23 = .ok (.getfield 56, 3) := by decide +kernel
theorem dX3_learn_26 : decode cX3_learn 26 = .ok (.invokestatic 59, 3) := by decide +kernel
theorem dX3_learn_29 : decode cX3_learn 29 = .ok (.putfield 40, 3) := by decide +kernel
theorem dX3_learn_32 : decode cX3_learn 32 = .ok (.iconst 0, 1) := by decide +kernel
theorem dX3_learn_33 : decode cX3_learn 33 = .ok (.istore_n 2, 1) := by decide +kernel
theorem dX3_learn_34 : decode cX3_learn 34 = .ok (.iload_n 2, 1) := by decide +kernel
theorem dX3_learn_35 : decode cX3_learn 35 = .ok (.aload_n 0, 1) := by decide +kernel
theorem dX3_learn_36 : decode cX3_learn 36 = .ok (.getfield 36, 3) := by decide +kernel
theorem dX3_learn_39 : decode cX3_learn 39 = .ok (.if_icmp .ge 16, 3) := by decide +kernel
theorem dX3_learn_42 : decode cX3_learn 42 = .ok (.aload_n 0, 1) := by decide +kernel
theorem dX3_learn_43 : decode cX3_learn 43 = .ok (.aload_n 1, 1) := by decide +kernel
theorem dX3_learn_44 : decode cX3_learn 44 = .ok (.iload_n 2, 1) := by decide +kernel
theorem dX3_learn_45 : decode cX3_learn 45 = .ok (.iconst (-1), 1) := by decide +kernel
theorem dX3_learn_46 : decode cX3_learn 46 = .ok (.invokevirtual 63, 3) := by decide +kernel
theorem dX3_learn_49 : decode cX3_learn 49 = .ok (.iinc 2 1, 3) := by decide +kernel
theorem dX3_learn_52 : decode cX3_learn 52 = .ok (.goto (-18), 3) := by decide +kernel
theorem dX3_learn_55 : decode cX3_learn 55 = .ok (.return_, 1) := by decide +kernel
theorem dX3_forget_0 : decode cX3_forget 0 = .ok (.aload_n 0, 1) := by decide +kernel
theorem dX3_forget_1 : decode cX3_forget 1 = .ok (.iconst 0, 1) := by decide +kernel
theorem dX3_forget_2 : decode cX3_forget 2 = .ok (.putfield 32, 3) := by decide +kernel
theorem dX3_forget_5 : decode cX3_forget 5 = .ok (.return_, 1) := by decide +kernel
theorem dX3_learnDrawer_0 : decode cX3_learnDrawer 0 = .ok (.iconst 0, 1) := by decide +kernel
theorem dX3_learnDrawer_1 : decode cX3_learnDrawer 1 = .ok (.istore 4, 2) := by decide +kernel
theorem dX3_learnDrawer_3 : decode cX3_learnDrawer 3 = .ok (.iload 4, 2) := by decide +kernel
theorem dX3_learnDrawer_5 : decode cX3_learnDrawer 5 = .ok (.aload_n 0, 1) := by decide +kernel
theorem dX3_learnDrawer_6 : decode cX3_learnDrawer 6 = .ok (.getfield 40, 3) := by decide +kernel
theorem dX3_learnDrawer_9 : decode cX3_learnDrawer 9 = .ok (.if_icmp .ge 32, 3) := by decide +kernel
theorem dX3_learnDrawer_12 : decode cX3_learnDrawer 12 = .ok (.aload_n 0, 1) := by decide +kernel
theorem dX3_learnDrawer_13 : decode cX3_learnDrawer 13 = .ok (.getfield 14, 3) := by decide +kernel
theorem dX3_learnDrawer_16 : decode cX3_learnDrawer 16 = .ok (.iload_n 2, 1) := by decide +kernel
theorem dX3_learnDrawer_17 : decode cX3_learnDrawer 17 = .ok (.sipush 2187, 3) := by decide +kernel
theorem dX3_learnDrawer_20 : decode cX3_learnDrawer 20 = .ok (.imul, 1) := by decide +kernel
theorem dX3_learnDrawer_21 : decode cX3_learnDrawer 21 = .ok (.iload 4, 2) := by decide +kernel
theorem dX3_learnDrawer_23 : decode cX3_learnDrawer 23 = .ok (.iadd, 1) := by decide +kernel
theorem dX3_learnDrawer_24 : decode cX3_learnDrawer 24 = .ok (.aload_n 1, 1) := by decide +kernel
theorem dX3_learnDrawer_25 : decode cX3_learnDrawer 25 = .ok (.iload 4, 2) := by decide +kernel
theorem dX3_learnDrawer_27 : decode cX3_learnDrawer 27 = .ok (.iload_n 2, 1) := by decide +kernel
theorem dX3_learnDrawer_28 : decode cX3_learnDrawer 28 = .ok (.iload_n 3, 1) := by decide +kernel
theorem dX3_learnDrawer_29 : decode cX3_learnDrawer 29 = .ok (.invokevirtual 67, 3) := by decide +kernel
theorem dX3_learnDrawer_32 : decode cX3_learnDrawer 32 = .ok (.invokevirtual 71, 3) := by decide +kernel
theorem dX3_learnDrawer_35 : decode cX3_learnDrawer 35 = .ok (.iinc 4 1, 3) := by decide +kernel
theorem dX3_learnDrawer_38 : decode cX3_learnDrawer 38 = .ok (.goto (-35), 3) := by decide +kernel
theorem dX3_learnDrawer_41 : decode cX3_learnDrawer 41 = .ok (.return_, 1) := by decide +kernel
theorem dX3_tied_0 : decode cX3_tied 0 = .ok (.aload_n 0, 1) := by decide +kernel
theorem dX3_tied_1 : decode cX3_tied 1 = .ok (.iload_n 1, 1) := by decide +kernel
theorem dX3_tied_2 : decode cX3_tied 2 = .ok (.putfield 43, 3) := by decide +kernel
theorem dX3_tied_5 : decode cX3_tied 5 = .ok (.aload_n 0, 1) := by decide +kernel
theorem dX3_tied_6 : decode cX3_tied 6 = .ok (.iload_n 2, 1) := by decide +kernel
theorem dX3_tied_7 : decode cX3_tied 7 = .ok (.putfield 46, 3) := by decide +kernel
theorem dX3_tied_10 : decode cX3_tied 10 = .ok (.aload_n 0, 1) := by decide +kernel
theorem dX3_tied_11 : decode cX3_tied 11 = .ok (.iload_n 3, 1) := by decide +kernel
theorem dX3_tied_12 : decode cX3_tied 12 = .ok (.putfield 49, 3) := by decide +kernel
theorem dX3_tied_15 : decode cX3_tied 15 = .ok (.return_, 1) := by decide +kernel
theorem dX3_step_0 : decode cX3_step 0 = .ok (.aload_n 0, 1) := by decide +kernel
theorem dX3_step_1 : decode cX3_step 1 = .ok (.getfield 14, 3) := by decide +kernel
theorem dX3_step_4 : decode cX3_step 4 = .ok (.iload_n 2, 1) := by decide +kernel
theorem dX3_step_5 : decode cX3_step 5 = .ok (.sipush 2187, 3) := by decide +kernel
theorem dX3_step_8 : decode cX3_step 8 = .ok (.imul, 1) := by decide +kernel
theorem dX3_step_9 : decode cX3_step 9 = .ok (.iload_n 1, 1) := by decide +kernel
theorem dX3_step_10 : decode cX3_step 10 = .ok (.iadd, 1) := by decide +kernel
theorem dX3_step_11 : decode cX3_step 11 = .ok (.invokevirtual 74, 3) := by decide +kernel
theorem dX3_step_14 : decode cX3_step 14 = .ok (.istore_n 3, 1) := by decide +kernel
theorem dX3_step_15 : decode cX3_step 15 = .ok (.iload_n 2, 1) := by decide +kernel
theorem dX3_step_16 : decode cX3_step 16 = .ok (.aload_n 0, 1) := by decide +kernel
theorem dX3_step_17 : decode cX3_step 17 = .ok (.getfield 43, 3) := by decide +kernel
theorem dX3_step_20 : decode cX3_step 20 = .ok (.if_icmp .ne 8, 3) := by decide +kernel
theorem dX3_step_23 : decode cX3_step 23 = .ok (.iload_n 3, 1) := by decide +kernel
theorem dX3_step_24 : decode cX3_step 24 = .ok (.iload_n 1, 1) := by decide +kernel
theorem dX3_step_25 : decode cX3_step 25 = .ok (.if_icmp .ne 5, 3) := by decide +kernel
theorem dX3_step_28 : decode cX3_step 28 = .ok (.iload_n 3, 1) := by decide +kernel
theorem dX3_step_29 : decode cX3_step 29 = .ok (.ireturn, 1) := by decide +kernel
theorem dX3_step_30 : decode cX3_step 30 = .ok (.iload_n 3, 1) := by decide +kernel
theorem dX3_step_31 : decode cX3_step 31 = .ok (.aload_n 0, 1) := by decide +kernel
theorem dX3_step_32 : decode cX3_step 32 = .ok (.getfield 46, 3) := by decide +kernel
theorem dX3_step_35 : decode cX3_step 35 = .ok (.aload_n 0, 1) := by decide +kernel
theorem dX3_step_36 : decode cX3_step 36 = .ok (.getfield 49, 3) := by decide +kernel
theorem dX3_step_39 : decode cX3_step 39 = .ok (.invokestatic 77, 3) := by decide +kernel
theorem dX3_step_42 : decode cX3_step 42 = .ok (.ireturn, 1) := by decide +kernel
theorem dX3_begin_0 : decode cX3_begin 0 = .ok (.aload_n 0, 1) := by decide +kernel
theorem dX3_begin_1 : decode cX3_begin 1 = .ok (.getfield 20, 3) := by decide +kernel
theorem dX3_begin_4 : decode cX3_begin 4 = .ok (.aload_n 0, 1) := by decide +kernel
theorem dX3_begin_5 : decode cX3_begin 5 = .ok (.getfield 40, 3) := by decide +kernel
theorem dX3_begin_8 : decode cX3_begin 8 = .ok (.iconst (-1), 1) := by decide +kernel
theorem dX3_begin_9 : decode cX3_begin 9 = .ok (.invokevirtual 52, 3) := by decide +kernel
theorem dX3_begin_12 : decode cX3_begin 12 = .ok (.aload_n 0, 1) := by decide +kernel
theorem dX3_begin_13 : decode cX3_begin 13 = .ok (.getfield 29, 3) := by decide +kernel
theorem dX3_begin_16 : decode cX3_begin 16 = .ok (.invokevirtual 80, 3) := by decide +kernel
theorem dX3_begin_19 : decode cX3_begin 19 = .ok (.return_, 1) := by decide +kernel
theorem dX3_barDangers_0 : decode cX3_barDangers 0 = .ok (.iconst 0, 1) := by decide +kernel
theorem dX3_barDangers_1 : decode cX3_barDangers 1 = .ok (.istore_n 2, 1) := by decide +kernel
theorem dX3_barDangers_2 : decode cX3_barDangers 2 = .ok (.iload_n 2, 1) := by decide +kernel
theorem dX3_barDangers_3 : decode cX3_barDangers 3 = .ok (.aload_n 0, 1) := by decide +kernel
theorem dX3_barDangers_4 : decode cX3_barDangers 4 = .ok (.getfield 40, 3) := by decide +kernel
theorem dX3_barDangers_7 : decode cX3_barDangers 7 = .ok (.if_icmp .ge 27, 3) := by decide +kernel
theorem dX3_barDangers_10 : decode cX3_barDangers 10 = .ok (.aload_n 1, 1) := by decide +kernel
theorem dX3_barDangers_11 : decode cX3_barDangers 11 = .ok (.iload_n 2, 1) := by decide +kernel
theorem dX3_barDangers_12 : decode cX3_barDangers 12 = .ok (.invokevirtual 83, 3) := by decide +kernel
theorem dX3_barDangers_15 : decode cX3_barDangers 15 = .ok (.ifCond .eq 13, 3) := by decide +kernel
theorem dX3_barDangers_18 : decode cX3_barDangers 18 = .ok (.aload_n 0, 1) := by decide +kernel
theorem dX3_barDangers_19 : decode cX3_barDangers 19 = .ok (.getfield 20, 3) := by decide +kernel
theorem dX3_barDangers_22 : decode cX3_barDangers 22 = .ok (.iload_n 2, 1) := by decide +kernel
theorem dX3_barDangers_23 : decode cX3_barDangers 23 = .ok (.bipush (-2), 2) := by decide +kernel
theorem dX3_barDangers_25 : decode cX3_barDangers 25 = .ok (.invokevirtual 71, 3) := by decide +kernel
theorem dX3_barDangers_28 : decode cX3_barDangers 28 = .ok (.iinc 2 1, 3) := by decide +kernel
theorem dX3_barDangers_31 : decode cX3_barDangers 31 = .ok (.goto (-29), 3) := by decide +kernel
theorem dX3_barDangers_34 : decode cX3_barDangers 34 = .ok (.return_, 1) := by decide +kernel
theorem dX3_spread_0 : decode cX3_spread 0 = .ok (.aload_n 0, 1) := by decide +kernel
theorem dX3_spread_1 : decode cX3_spread 1 = .ok (.iload_n 1, 1) := by decide +kernel
theorem dX3_spread_2 : decode cX3_spread 2 = .ok (.iconst (-1), 1) := by decide +kernel
theorem dX3_spread_3 : decode cX3_spread 3 = .ok (.iconst (-1), 1) := by decide +kernel
theorem dX3_spread_4 : decode cX3_spread 4 = .ok (.invokevirtual 87, 3) := by decide +kernel
theorem dX3_spread_7 : decode cX3_spread 7 = .ok (.iconst 0, 1) := by decide +kernel
theorem dX3_spread_8 : decode cX3_spread 8 = .ok (.istore_n 2, 1) := by decide +kernel
theorem dX3_spread_9 : decode cX3_spread 9 = .ok (.iload_n 2, 1) := by decide +kernel
theorem dX3_spread_10 : decode cX3_spread 10 = .ok (.aload_n 0, 1) := by decide +kernel
theorem dX3_spread_11 : decode cX3_spread 11 = .ok (.getfield 29, 3) := by decide +kernel
theorem dX3_spread_14 : decode cX3_spread 14 = .ok (.invokevirtual 91, 3) := by decide +kernel
theorem dX3_spread_17 : decode cX3_spread 17 = .ok (.if_icmp .ge 29, 3) := by decide +kernel
theorem dX3_spread_20 : decode cX3_spread 20 = .ok (.iload_n 2, 1) := by decide +kernel
theorem dX3_spread_21 : decode cX3_spread 21 = .ok (.aload_n 0, 1) := by decide +kernel
theorem dX3_spread_22 : decode cX3_spread 22 = .ok (.getfield 40, 3) := by decide +kernel
theorem dX3_spread_25 : decode cX3_spread 25 = .ok (.if_icmp .ge 21, 3) := by decide +kernel
theorem dX3_spread_28 : decode cX3_spread 28 = .ok (.aload_n 0, 1) := by decide +kernel
theorem dX3_spread_29 : decode cX3_spread 29 = .ok (.aload_n 0, 1) := by decide +kernel
theorem dX3_spread_30 : decode cX3_spread 30 = .ok (.getfield 29, 3) := by decide +kernel
theorem dX3_spread_33 : decode cX3_spread 33 = .ok (.iload_n 2, 1) := by decide +kernel
theorem dX3_spread_34 : decode cX3_spread 34 = .ok (.invokevirtual 74, 3) := by decide +kernel
theorem dX3_spread_37 : decode cX3_spread 37 = .ok (.invokevirtual 95, 3) := by decide +kernel
theorem dX3_spread_40 : decode cX3_spread 40 = .ok (.iinc 2 1, 3) := by decide +kernel
theorem dX3_spread_43 : decode cX3_spread 43 = .ok (.goto (-34), 3) := by decide +kernel
theorem dX3_spread_46 : decode cX3_spread 46 = .ok (.return_, 1) := by decide +kernel
theorem dX3_grow_0 : decode cX3_grow 0 = .ok (.iconst 0, 1) := by decide +kernel
theorem dX3_grow_1 : decode cX3_grow 1 = .ok (.istore_n 2, 1) := by decide +kernel
theorem dX3_grow_2 : decode cX3_grow 2 = .ok (.iload_n 2, 1) := by decide +kernel
theorem dX3_grow_3 : decode cX3_grow 3 = .ok (.aload_n 0, 1) := by decide +kernel
theorem dX3_grow_4 : decode cX3_grow 4 = .ok (.getfield 36, 3) := by decide +kernel
theorem dX3_grow_7 : decode cX3_grow 7 = .ok (.if_icmp .ge 21, 3) := by decide +kernel
theorem dX3_grow_10 : decode cX3_grow 10 = .ok (.aload_n 0, 1) := by decide +kernel
theorem dX3_grow_11 : decode cX3_grow 11 = .ok (.aload_n 0, 1) := by decide +kernel
theorem dX3_grow_12 : decode cX3_grow 12 = .ok (.iload_n 1, 1) := by decide +kernel
theorem dX3_grow_13 : decode cX3_grow 13 = .ok (.iload_n 2, 1) := by decide +kernel
theorem dX3_grow_14 : decode cX3_grow 14 = .ok (.invokevirtual 98, 3) := by decide +kernel
theorem dX3_grow_17 : decode cX3_grow 17 = .ok (.iload_n 1, 1) := by decide +kernel
theorem dX3_grow_18 : decode cX3_grow 18 = .ok (.iload_n 2, 1) := by decide +kernel
theorem dX3_grow_19 : decode cX3_grow 19 = .ok (.invokevirtual 87, 3) := by decide +kernel
theorem dX3_grow_22 : decode cX3_grow 22 = .ok (.iinc 2 1, 3) := by decide +kernel
theorem dX3_grow_25 : decode cX3_grow 25 = .ok (.goto (-23), 3) := by decide +kernel
theorem dX3_grow_28 : decode cX3_grow 28 = .ok (.return_, 1) := by decide +kernel
theorem dX3_meet_0 : decode cX3_meet 0 = .ok (.aload_n 0, 1) := by decide +kernel
theorem dX3_meet_1 : decode cX3_meet 1 = .ok (.getfield 20, 3) := by decide +kernel
theorem dX3_meet_4 : decode cX3_meet 4 = .ok (.iload_n 1, 1) := by decide +kernel
theorem dX3_meet_5 : decode cX3_meet 5 = .ok (.invokevirtual 74, 3) := by decide +kernel
theorem dX3_meet_8 : decode cX3_meet 8 = .ok (.iconst (-1), 1) := by decide +kernel
theorem dX3_meet_9 : decode cX3_meet 9 = .ok (.if_icmp .eq 4, 3) := by decide +kernel
theorem dX3_meet_12 : decode cX3_meet 12 = .ok (.return_, 1) := by decide +kernel
theorem dX3_meet_13 : decode cX3_meet 13 = .ok (.aload_n 0, 1) := by decide +kernel
theorem dX3_meet_14 : decode cX3_meet 14 = .ok (.getfield 20, 3) := by decide +kernel
theorem dX3_meet_17 : decode cX3_meet 17 = .ok (.iload_n 1, 1) := by decide +kernel
theorem dX3_meet_18 : decode cX3_meet 18 = .ok (.iload_n 2, 1) := by decide +kernel
theorem dX3_meet_19 : decode cX3_meet 19 = .ok (.iconst (-1), 1) := by decide +kernel
theorem dX3_meet_20 : decode cX3_meet 20 = .ok (.if_icmp .ne 7, 3) := by decide +kernel
theorem dX3_meet_23 : decode cX3_meet 23 = .ok (.iconst 0, 1) := by decide +kernel
theorem dX3_meet_24 : decode cX3_meet 24 = .ok (.goto 13, 3) := by decide +kernel
theorem dX3_meet_27 : decode cX3_meet 27 = .ok (.aload_n 0, 1) := by decide +kernel
theorem dX3_meet_28 : decode cX3_meet 28 = .ok (.getfield 20, 3) := by decide +kernel
theorem dX3_meet_31 : decode cX3_meet 31 = .ok (.iload_n 2, 1) := by decide +kernel
theorem dX3_meet_32 : decode cX3_meet 32 = .ok (.invokevirtual 74, 3) := by decide +kernel
theorem dX3_meet_35 : decode cX3_meet 35 = .ok (.iconst 1, 1) := by decide +kernel
theorem dX3_meet_36 : decode cX3_meet 36 = .ok (.iadd, 1) := by decide +kernel
theorem dX3_meet_37 : decode cX3_meet 37 = .ok (.invokevirtual 71, 3) := by decide +kernel
theorem dX3_meet_40 : decode cX3_meet 40 = .ok (.aload_n 0, 1) := by decide +kernel
theorem dX3_meet_41 : decode cX3_meet 41 = .ok (.getfield 23, 3) := by decide +kernel
theorem dX3_meet_44 : decode cX3_meet 44 = .ok (.iload_n 1, 1) := by decide +kernel
theorem dX3_meet_45 : decode cX3_meet 45 = .ok (.iload_n 2, 1) := by decide +kernel
theorem dX3_meet_46 : decode cX3_meet 46 = .ok (.invokevirtual 71, 3) := by decide +kernel
theorem dX3_meet_49 : decode cX3_meet 49 = .ok (.aload_n 0, 1) := by decide +kernel
theorem dX3_meet_50 : decode cX3_meet 50 = .ok (.getfield 26, 3) := by decide +kernel
theorem dX3_meet_53 : decode cX3_meet 53 = .ok (.iload_n 1, 1) := by decide +kernel
theorem dX3_meet_54 : decode cX3_meet 54 = .ok (.iload_n 3, 1) := by decide +kernel
theorem dX3_meet_55 : decode cX3_meet 55 = .ok (.invokevirtual 71, 3) := by decide +kernel
theorem dX3_meet_58 : decode cX3_meet 58 = .ok (.aload_n 0, 1) := by decide +kernel
theorem dX3_meet_59 : decode cX3_meet 59 = .ok (.getfield 29, 3) := by decide +kernel
theorem dX3_meet_62 : decode cX3_meet 62 = .ok (.iload_n 1, 1) := by decide +kernel
theorem dX3_meet_63 : decode cX3_meet 63 = .ok (.invokevirtual 102, 3) := by decide +kernel
theorem dX3_meet_66 : decode cX3_meet 66 = .ok (.return_, 1) := by decide +kernel
theorem dX3_firstWith_0 : decode cX3_firstWith 0 = .ok (.aload_n 0, 1) := by decide +kernel
theorem dX3_firstWith_1 : decode cX3_firstWith 1 = .ok (.iload_n 1, 1) := by decide +kernel
theorem dX3_firstWith_2 : decode cX3_firstWith 2 = .ok (.iconst (-1), 1) := by decide +kernel
theorem dX3_firstWith_3 : decode cX3_firstWith 3 = .ok (.iconst (-1), 1) := by decide +kernel
theorem dX3_firstWith_4 : decode cX3_firstWith 4 = .ok (.invokevirtual 87, 3) := by decide +kernel
theorem dX3_firstWith_7 : decode cX3_firstWith 7 = .ok (.iconst 0, 1) := by decide +kernel
theorem dX3_firstWith_8 : decode cX3_firstWith 8 = .ok (.istore 4, 2) := by decide +kernel
theorem dX3_firstWith_10 : decode cX3_firstWith 10 = .ok (.iload 4, 2) := by decide +kernel
theorem dX3_firstWith_12 : decode cX3_firstWith 12 = .ok (.aload_n 0, 1) := by decide +kernel
theorem dX3_firstWith_13 : decode cX3_firstWith 13 = .ok (.getfield 29, 3) := by decide +kernel
theorem dX3_firstWith_16 : decode cX3_firstWith 16 = .ok (.invokevirtual 91, 3) := by decide +kernel
theorem dX3_firstWith_19 : decode cX3_firstWith 19 = .ok (.if_icmp .ge 74, 3) := by decide +kernel
theorem dX3_firstWith_22 : decode cX3_firstWith 22 = .ok (.iload 4, 2) := by decide +kernel
theorem dX3_firstWith_24 : decode cX3_firstWith 24 = .ok (.aload_n 0, 1) := by decide +kernel
theorem dX3_firstWith_25 : decode cX3_firstWith 25 = .ok (.getfield 40, 3) := by decide +kernel
theorem dX3_firstWith_28 : decode cX3_firstWith 28 = .ok (.if_icmp .ge 65, 3) := by decide +kernel
theorem dX3_firstWith_31 : decode cX3_firstWith 31 = .ok (.aload_n 0, 1) := by decide +kernel
theorem dX3_firstWith_32 : decode cX3_firstWith 32 = .ok (.getfield 29, 3) := by decide +kernel
theorem dX3_firstWith_35 : decode cX3_firstWith 35 = .ok (.iload 4, 2) := by decide +kernel
theorem dX3_firstWith_37 : decode cX3_firstWith 37 = .ok (.invokevirtual 74, 3) := by decide +kernel
theorem dX3_firstWith_40 : decode cX3_firstWith 40 = .ok (.istore 5, 2) := by decide +kernel
theorem dX3_firstWith_42 : decode cX3_firstWith 42 = .ok (.iload 5, 2) := by decide +kernel
theorem dX3_firstWith_44 : decode cX3_firstWith 44 = .ok (.iconst 2, 1) := by decide +kernel
theorem dX3_firstWith_45 : decode cX3_firstWith 45 = .ok (.invokestatic 105, 3) := by decide +kernel
theorem dX3_firstWith_48 : decode cX3_firstWith 48 = .ok (.iload_n 2, 1) := by decide +kernel
theorem dX3_firstWith_49 : decode cX3_firstWith 49 = .ok (.iand, 1) := by decide +kernel
theorem dX3_firstWith_50 : decode cX3_firstWith 50 = .ok (.iload_n 2, 1) := by decide +kernel
theorem dX3_firstWith_51 : decode cX3_firstWith 51 = .ok (.if_icmp .ne 7, 3) := by decide +kernel
theorem dX3_firstWith_54 : decode cX3_firstWith 54 = .ok (.iconst 1, 1) := by decide +kernel
theorem dX3_firstWith_55 : decode cX3_firstWith 55 = .ok (.goto 4, 3) := by decide +kernel
theorem dX3_firstWith_58 : decode cX3_firstWith 58 = .ok (.iconst 0, 1) := by decide +kernel
theorem dX3_firstWith_59 : decode cX3_firstWith 59 = .ok (.istore 6, 2) := by decide +kernel
theorem dX3_firstWith_61 : decode cX3_firstWith 61 = .ok (.iload 6, 2) := by decide +kernel
theorem dX3_firstWith_63 : decode cX3_firstWith 63 = .ok (.ifCond .eq 18, 3) := by decide +kernel
theorem dX3_firstWith_66 : decode cX3_firstWith 66 = .ok (.iload 5, 2) := by decide +kernel
theorem dX3_firstWith_68 : decode cX3_firstWith 68 = .ok (.iconst 0, 1) := by decide +kernel
theorem dX3_firstWith_69 : decode cX3_firstWith 69 = .ok (.invokestatic 105, 3) := by decide +kernel
theorem dX3_firstWith_72 : decode cX3_firstWith 72 = .ok (.iload_n 3, 1) := by decide +kernel
theorem dX3_firstWith_73 : decode cX3_firstWith 73 = .ok (.iand, 1) := by decide +kernel
theorem dX3_firstWith_74 : decode cX3_firstWith 74 = .ok (.iload_n 3, 1) := by decide +kernel
theorem dX3_firstWith_75 : decode cX3_firstWith 75 = .ok (.if_icmp .ne 6, 3) := by decide +kernel
theorem dX3_firstWith_78 : decode cX3_firstWith 78 = .ok (.iload 5, 2) := by decide +kernel
theorem dX3_firstWith_80 : decode cX3_firstWith 80 = .ok (.ireturn, 1) := by decide +kernel
theorem dX3_firstWith_81 : decode cX3_firstWith 81 = .ok (.aload_n 0, 1) := by decide +kernel
theorem dX3_firstWith_82 : decode cX3_firstWith 82 = .ok (.iload 5, 2) := by decide +kernel
theorem dX3_firstWith_84 : decode cX3_firstWith 84 = .ok (.invokevirtual 95, 3) := by decide +kernel
theorem dX3_firstWith_87 : decode cX3_firstWith 87 = .ok (.iinc 4 1, 3) := by decide +kernel
theorem dX3_firstWith_90 : decode cX3_firstWith 90 = .ok (.goto (-80), 3) := by decide +kernel
theorem dX3_firstWith_93 : decode cX3_firstWith 93 = .ok (.iconst (-1), 1) := by decide +kernel
theorem dX3_firstWith_94 : decode cX3_firstWith 94 = .ok (.ireturn, 1) := by decide +kernel
theorem dX3_nearestOpen_0 : decode cX3_nearestOpen 0 = .ok (.iconst (-1), 1) := by decide +kernel
theorem dX3_nearestOpen_1 : decode cX3_nearestOpen 1 = .ok (.istore_n 3, 1) := by decide +kernel
theorem dX3_nearestOpen_2 : decode cX3_nearestOpen 2 = .ok (.bipush 7, 2) := by decide +kernel
theorem dX3_nearestOpen_4 : decode cX3_nearestOpen 4 = .ok (.istore 4, 2) := by decide +kernel
theorem dX3_nearestOpen_6 : decode cX3_nearestOpen 6 = .ok (.aload_n 0, 1) := by decide +kernel
theorem dX3_nearestOpen_7 : decode cX3_nearestOpen 7 = .ok (.iload_n 1, 1) := by decide +kernel
theorem dX3_nearestOpen_8 : decode cX3_nearestOpen 8 = .ok (.iconst (-1), 1) := by decide +kernel
theorem dX3_nearestOpen_9 : decode cX3_nearestOpen 9 = .ok (.iconst (-1), 1) := by decide +kernel
theorem dX3_nearestOpen_10 : decode cX3_nearestOpen 10 = .ok (.invokevirtual 87, 3) := by decide +kernel
theorem dX3_nearestOpen_13 : decode cX3_nearestOpen 13 = .ok (.iconst 0, 1) := by decide +kernel
theorem dX3_nearestOpen_14 : decode cX3_nearestOpen 14 = .ok (.istore 5, 2) := by decide +kernel
theorem dX3_nearestOpen_16 : decode cX3_nearestOpen 16 = .ok (.iload 5, 2) := by decide +kernel
theorem dX3_nearestOpen_18 : decode cX3_nearestOpen 18 = .ok (.aload_n 0, 1) := by decide +kernel
theorem dX3_nearestOpen_19 : decode cX3_nearestOpen 19 = .ok (.getfield 29, 3) := by decide +kernel
theorem dX3_nearestOpen_22 : decode cX3_nearestOpen 22 = .ok (.invokevirtual 91, 3) := by decide +kernel
theorem dX3_nearestOpen_25 : decode cX3_nearestOpen 25 = .ok (.if_icmp .ge 104, 3) := by decide +kernel
theorem dX3_nearestOpen_28 : decode cX3_nearestOpen 28 = .ok (.iload 5, 2) := by decide +kernel
theorem dX3_nearestOpen_30 : decode cX3_nearestOpen 30 = .ok (.aload_n 0, 1) := by decide +kernel
theorem dX3_nearestOpen_31 : decode cX3_nearestOpen 31 = .ok (.getfield 40, 3) := by decide +kernel
theorem dX3_nearestOpen_34 : decode cX3_nearestOpen 34 = .ok (.if_icmp .ge 95, 3) := by decide +kernel
theorem dX3_nearestOpen_37 : decode cX3_nearestOpen 37 = .ok (.aload_n 0, 1) := by decide +kernel
theorem dX3_nearestOpen_38 : decode cX3_nearestOpen 38 = .ok (.getfield 29, 3) := by decide +kernel
theorem dX3_nearestOpen_41 : decode cX3_nearestOpen 41 = .ok (.iload 5, 2) := by decide +kernel
theorem dX3_nearestOpen_43 : decode cX3_nearestOpen 43 = .ok (.invokevirtual 74, 3) := by decide +kernel
theorem dX3_nearestOpen_46 : decode cX3_nearestOpen 46 = .ok (.istore 6, 2) := by decide +kernel
theorem dX3_nearestOpen_48 : decode cX3_nearestOpen 48 = .ok (.iload_n 3, 1) := by decide +kernel
theorem dX3_nearestOpen_49 : decode cX3_nearestOpen 49 = .ok (.iconst (-1), 1) := by decide +kernel
theorem dX3_nearestOpen_50 : decode cX3_nearestOpen 50 = .ok (.if_icmp .eq 26, 3) := by decide +kernel
theorem dX3_nearestOpen_53 : decode cX3_nearestOpen 53 = .ok (.aload_n 0, 1) := by decide +kernel
theorem dX3_nearestOpen_54 : decode cX3_nearestOpen 54 = .ok (.getfield 20, 3) := by decide +kernel
theorem dX3_nearestOpen_57 : decode cX3_nearestOpen 57 = .ok (.iload 6, 2) := by decide +kernel
theorem dX3_nearestOpen_59 : decode cX3_nearestOpen 59 = .ok (.invokevirtual 74, 3) := by decide +kernel
theorem dX3_nearestOpen_62 : decode cX3_nearestOpen 62 = .ok (.aload_n 0, 1) := by decide +kernel
theorem dX3_nearestOpen_63 : decode cX3_nearestOpen 63 = .ok (.getfield 20, 3) := by decide +kernel
theorem dX3_nearestOpen_66 : decode cX3_nearestOpen 66 = .ok (.iload_n 3, 1) := by decide +kernel
theorem dX3_nearestOpen_67 : decode cX3_nearestOpen 67 = .ok (.invokevirtual 74, 3) := by decide +kernel
theorem dX3_nearestOpen_70 : decode cX3_nearestOpen 70 = .ok (.if_icmp .le 6, 3) := by decide +kernel
theorem dX3_nearestOpen_73 : decode cX3_nearestOpen 73 = .ok (.goto 56, 3) := by decide +kernel
theorem dX3_nearestOpen_76 : decode cX3_nearestOpen 76 = .ok (.iload 6, 2) := by decide +kernel
theorem dX3_nearestOpen_78 : decode cX3_nearestOpen 78 = .ok (.iconst 2, 1) := by decide +kernel
theorem dX3_nearestOpen_79 : decode cX3_nearestOpen 79 = .ok (.invokestatic 105, 3) := by decide +kernel
theorem dX3_nearestOpen_82 : decode cX3_nearestOpen 82 = .ok (.iload_n 2, 1) := by decide +kernel
theorem dX3_nearestOpen_83 : decode cX3_nearestOpen 83 = .ok (.iand, 1) := by decide +kernel
theorem dX3_nearestOpen_84 : decode cX3_nearestOpen 84 = .ok (.istore 7, 2) := by decide +kernel
theorem dX3_nearestOpen_86 : decode cX3_nearestOpen 86 = .ok (.iload 7, 2) := by decide +kernel
theorem dX3_nearestOpen_88 : decode cX3_nearestOpen 88 = .ok (.invokestatic 108, 3) := by decide +kernel
theorem dX3_nearestOpen_91 : decode cX3_nearestOpen 91 = .ok (.istore 8, 2) := by decide +kernel
theorem dX3_nearestOpen_93 : decode cX3_nearestOpen 93 = .ok (.iload 7, 2) := by decide +kernel
theorem dX3_nearestOpen_95 : decode cX3_nearestOpen 95 = .ok (.ifCond .eq 17, 3) := by decide +kernel
theorem dX3_nearestOpen_98 : decode cX3_nearestOpen 98 = .ok (.iload 8, 2) := by decide +kernel
theorem dX3_nearestOpen_100 : decode cX3_nearestOpen 100 = .ok (.iload 4, 2) := by decide +kernel
theorem dX3_nearestOpen_102 : decode cX3_nearestOpen 102 = .ok (.if_icmp .ge 10, 3) := by decide +kernel
theorem dX3_nearestOpen_105 : decode cX3_nearestOpen 105 = .ok (.iload 6, 2) := by decide +kernel
theorem dX3_nearestOpen_107 : decode cX3_nearestOpen 107 = .ok (.istore_n 3, 1) := by decide +kernel
theorem dX3_nearestOpen_108 : decode cX3_nearestOpen 108 = .ok (.iload 8, 2) := by decide +kernel
theorem dX3_nearestOpen_110 : decode cX3_nearestOpen 110 = .ok (.istore 4, 2) := by decide +kernel
theorem dX3_nearestOpen_112 : decode cX3_nearestOpen 112 = .ok (.iload_n 3, 1) := by decide +kernel
theorem dX3_nearestOpen_113 : decode cX3_nearestOpen 113 = .ok (.iconst (-1), 1) := by decide +kernel
theorem dX3_nearestOpen_114 : decode cX3_nearestOpen 114 = .ok (.if_icmp .ne 9, 3) := by decide +kernel
theorem dX3_nearestOpen_117 : decode cX3_nearestOpen 117 = .ok (.aload_n 0, 1) := by decide +kernel
theorem dX3_nearestOpen_118 : decode cX3_nearestOpen 118 = .ok (.iload 6, 2) := by decide +kernel
theorem dX3_nearestOpen_120 : decode cX3_nearestOpen 120 = .ok (.invokevirtual 95, 3) := by decide +kernel
theorem dX3_nearestOpen_123 : decode cX3_nearestOpen 123 = .ok (.iinc 5 1, 3) := by decide +kernel
theorem dX3_nearestOpen_126 : decode cX3_nearestOpen 126 = .ok (.goto (-110), 3) := by decide +kernel
theorem dX3_nearestOpen_129 : decode cX3_nearestOpen 129 = .ok (.iload_n 3, 1) := by decide +kernel
theorem dX3_nearestOpen_130 : decode cX3_nearestOpen 130 = .ok (.ireturn, 1) := by decide +kernel
theorem dX3_pulledAt_0 : decode cX3_pulledAt 0 = .ok (.iload_n 1, 1) := by decide +kernel
theorem dX3_pulledAt_1 : decode cX3_pulledAt 1 = .ok (.istore_n 3, 1) := by decide +kernel
theorem dX3_pulledAt_2 : decode cX3_pulledAt 2 = .ok (.aload_n 0, 1) := by decide +kernel
theorem dX3_pulledAt_3 : decode cX3_pulledAt 3 = .ok (.getfield 20, 3) := by decide +kernel
theorem dX3_pulledAt_6 : decode cX3_pulledAt 6 = .ok (.iload_n 1, 1) := by decide +kernel
theorem dX3_pulledAt_7 : decode cX3_pulledAt 7 = .ok (.invokevirtual 74, 3) := by decide +kernel
theorem dX3_pulledAt_10 : decode cX3_pulledAt 10 = .ok (.iconst 1, 1) := by decide +kernel
theorem dX3_pulledAt_11 : decode cX3_pulledAt 11 = .ok (.isub, 1) := by decide +kernel
theorem dX3_pulledAt_12 : decode cX3_pulledAt 12 = .ok (.istore 4, 2) := by decide +kernel
theorem dX3_pulledAt_14 : decode cX3_pulledAt 14 = .ok (.iload 4, 2) := by decide +kernel
theorem dX3_pulledAt_16 : decode cX3_pulledAt 16 = .ok (.iload_n 2, 1) := by decide +kernel
theorem dX3_pulledAt_17 : decode cX3_pulledAt 17 = .ok (.if_icmp .le 18, 3) := by decide +kernel
theorem dX3_pulledAt_20 : decode cX3_pulledAt 20 = .ok (.aload_n 0, 1) := by decide +kernel
theorem dX3_pulledAt_21 : decode cX3_pulledAt 21 = .ok (.getfield 23, 3) := by decide +kernel
theorem dX3_pulledAt_24 : decode cX3_pulledAt 24 = .ok (.iload_n 3, 1) := by decide +kernel
theorem dX3_pulledAt_25 : decode cX3_pulledAt 25 = .ok (.invokevirtual 74, 3) := by decide +kernel
theorem dX3_pulledAt_28 : decode cX3_pulledAt 28 = .ok (.istore_n 3, 1) := by decide +kernel
theorem dX3_pulledAt_29 : decode cX3_pulledAt 29 = .ok (.iinc 4 (-1), 3) := by decide +kernel
theorem dX3_pulledAt_32 : decode cX3_pulledAt 32 = .ok (.goto (-18), 3) := by decide +kernel
theorem dX3_pulledAt_35 : decode cX3_pulledAt 35 = .ok (.aload_n 0, 1) := by decide +kernel
theorem dX3_pulledAt_36 : decode cX3_pulledAt 36 = .ok (.getfield 26, 3) := by decide +kernel
theorem dX3_pulledAt_39 : decode cX3_pulledAt 39 = .ok (.iload_n 3, 1) := by decide +kernel
theorem dX3_pulledAt_40 : decode cX3_pulledAt 40 = .ok (.invokevirtual 74, 3) := by decide +kernel
theorem dX3_pulledAt_43 : decode cX3_pulledAt 43 = .ok (.ireturn, 1) := by decide +kernel
theorem dX3_everOpen_0 : decode cX3_everOpen 0 = .ok (.iconst 0, 1) := by decide +kernel
theorem dX3_everOpen_1 : decode cX3_everOpen 1 = .ok (.istore_n 1, 1) := by decide +kernel
theorem dX3_everOpen_2 : decode cX3_everOpen 2 = .ok (.iconst 0, 1) := by decide +kernel
theorem dX3_everOpen_3 : decode cX3_everOpen 3 = .ok (.istore_n 2, 1) := by decide +kernel
theorem dX3_everOpen_4 : decode cX3_everOpen 4 = .ok (.iload_n 2, 1) := by decide +kernel
theorem dX3_everOpen_5 : decode cX3_everOpen 5 = .ok (.aload_n 0, 1) := by decide +kernel
theorem dX3_everOpen_6 : decode cX3_everOpen 6 = .ok (.getfield 29, 3) := by decide +kernel
theorem dX3_everOpen_9 : decode cX3_everOpen 9 = .ok (.invokevirtual 91, 3) := by decide +kernel
theorem dX3_everOpen_12 : decode cX3_everOpen 12 = .ok (.if_icmp .ge 24, 3) := by decide +kernel
theorem dX3_everOpen_15 : decode cX3_everOpen 15 = .ok (.iload_n 1, 1) := by decide +kernel
theorem dX3_everOpen_16 : decode cX3_everOpen 16 = .ok (.aload_n 0, 1) := by decide +kernel
theorem dX3_everOpen_17 : decode cX3_everOpen 17 = .ok (.getfield 29, 3) := by decide +kernel
theorem dX3_everOpen_20 : decode cX3_everOpen 20 = .ok (.iload_n 2, 1) := by decide +kernel
theorem dX3_everOpen_21 : decode cX3_everOpen 21 = .ok (.invokevirtual 74, 3) := by decide +kernel
theorem dX3_everOpen_24 : decode cX3_everOpen 24 = .ok (.iconst 2, 1) := by decide +kernel
theorem dX3_everOpen_25 : decode cX3_everOpen 25 = .ok (.invokestatic 105, 3) := by decide +kernel
theorem dX3_everOpen_28 : decode cX3_everOpen 28 = .ok (.ior, 1) := by decide +kernel
theorem dX3_everOpen_29 : decode cX3_everOpen 29 = .ok (.istore_n 1, 1) := by decide +kernel
theorem dX3_everOpen_30 : decode cX3_everOpen 30 = .ok (.iinc 2 1, 3) := by decide +kernel
theorem dX3_everOpen_33 : decode cX3_everOpen 33 = .ok (.goto (-29), 3) := by decide +kernel
theorem dX3_everOpen_36 : decode cX3_everOpen 36 = .ok (.iload_n 1, 1) := by decide +kernel
theorem dX3_everOpen_37 : decode cX3_everOpen 37 = .ok (.ireturn, 1) := by decide +kernel
theorem dX3_isJam_0 : decode cX3_isJam 0 = .ok (.iconst 0, 1) := by decide +kernel
theorem dX3_isJam_1 : decode cX3_isJam 1 = .ok (.istore_n 2, 1) := by decide +kernel
theorem dX3_isJam_2 : decode cX3_isJam 2 = .ok (.iload_n 2, 1) := by decide +kernel
theorem dX3_isJam_3 : decode cX3_isJam 3 = .ok (.aload_n 0, 1) := by decide +kernel
theorem dX3_isJam_4 : decode cX3_isJam 4 = .ok (.getfield 36, 3) := by decide +kernel
theorem dX3_isJam_7 : decode cX3_isJam 7 = .ok (.if_icmp .ge 21, 3) := by decide +kernel
theorem dX3_isJam_10 : decode cX3_isJam 10 = .ok (.aload_n 0, 1) := by decide +kernel
theorem dX3_isJam_11 : decode cX3_isJam 11 = .ok (.iload_n 1, 1) := by decide +kernel
theorem dX3_isJam_12 : decode cX3_isJam 12 = .ok (.iload_n 2, 1) := by decide +kernel
theorem dX3_isJam_13 : decode cX3_isJam 13 = .ok (.invokevirtual 98, 3) := by decide +kernel
theorem dX3_isJam_16 : decode cX3_isJam 16 = .ok (.iload_n 1, 1) := by decide +kernel
theorem dX3_isJam_17 : decode cX3_isJam 17 = .ok (.if_icmp .eq 5, 3) := by decide +kernel
theorem dX3_isJam_20 : decode cX3_isJam 20 = .ok (.iconst 0, 1) := by decide +kernel
theorem dX3_isJam_21 : decode cX3_isJam 21 = .ok (.ireturn, 1) := by decide +kernel
theorem dX3_isJam_22 : decode cX3_isJam 22 = .ok (.iinc 2 1, 3) := by decide +kernel
theorem dX3_isJam_25 : decode cX3_isJam 25 = .ok (.goto (-23), 3) := by decide +kernel
theorem dX3_isJam_28 : decode cX3_isJam 28 = .ok (.iconst 1, 1) := by decide +kernel
theorem dX3_isJam_29 : decode cX3_isJam 29 = .ok (.ireturn, 1) := by decide +kernel
theorem dX3_jams_0 : decode cX3_jams 0 = .ok (.iconst 0, 1) := by decide +kernel
theorem dX3_jams_1 : decode cX3_jams 1 = .ok (.istore_n 1, 1) := by decide +kernel
theorem dX3_jams_2 : decode cX3_jams 2 = .ok (.iconst 0, 1) := by decide +kernel
theorem dX3_jams_3 : decode cX3_jams 3 = .ok (.istore_n 2, 1) := by decide +kernel
theorem dX3_jams_4 : decode cX3_jams 4 = .ok (.iload_n 2, 1) := by decide +kernel
theorem dX3_jams_5 : decode cX3_jams 5 = .ok (.aload_n 0, 1) := by decide +kernel
theorem dX3_jams_6 : decode cX3_jams 6 = .ok (.getfield 29, 3) := by decide +kernel
theorem dX3_jams_9 : decode cX3_jams 9 = .ok (.invokevirtual 91, 3) := by decide +kernel
theorem dX3_jams_12 : decode cX3_jams 12 = .ok (.if_icmp .ge 27, 3) := by decide +kernel
theorem dX3_jams_15 : decode cX3_jams 15 = .ok (.aload_n 0, 1) := by decide +kernel
theorem dX3_jams_16 : decode cX3_jams 16 = .ok (.aload_n 0, 1) := by decide +kernel
theorem dX3_jams_17 : decode cX3_jams 17 = .ok (.getfield 29, 3) := by decide +kernel
theorem dX3_jams_20 : decode cX3_jams 20 = .ok (.iload_n 2, 1) := by decide +kernel
theorem dX3_jams_21 : decode cX3_jams 21 = .ok (.invokevirtual 74, 3) := by decide +kernel
theorem dX3_jams_24 : decode cX3_jams 24 = .ok (.invokevirtual 113, 3) := by decide +kernel
theorem dX3_jams_27 : decode cX3_jams 27 = .ok (.ifCond .eq 6, 3) := by decide +kernel
theorem dX3_jams_30 : decode cX3_jams 30 = .ok (.iinc 1 1, 3) := by decide +kernel
theorem dX3_jams_33 : decode cX3_jams 33 = .ok (.iinc 2 1, 3) := by decide +kernel
theorem dX3_jams_36 : decode cX3_jams 36 = .ok (.goto (-32), 3) := by decide +kernel
theorem dX3_jams_39 : decode cX3_jams 39 = .ok (.iload_n 1, 1) := by decide +kernel
theorem dX3_jams_40 : decode cX3_jams 40 = .ok (.ireturn, 1) := by decide +kernel
theorem dX3_leastJam_0 : decode cX3_leastJam 0 = .ok (.iconst 0, 1) := by decide +kernel
theorem dX3_leastJam_1 : decode cX3_leastJam 1 = .ok (.istore_n 1, 1) := by decide +kernel
theorem dX3_leastJam_2 : decode cX3_leastJam 2 = .ok (.iload_n 1, 1) := by decide +kernel
theorem dX3_leastJam_3 : decode cX3_leastJam 3 = .ok (.aload_n 0, 1) := by decide +kernel
theorem dX3_leastJam_4 : decode cX3_leastJam 4 = .ok (.getfield 40, 3) := by decide +kernel
theorem dX3_leastJam_7 : decode cX3_leastJam 7 = .ok (.if_icmp .ge 31, 3) := by decide +kernel
theorem dX3_leastJam_10 : decode cX3_leastJam 10 = .ok (.aload_n 0, 1) := by decide +kernel
theorem dX3_leastJam_11 : decode cX3_leastJam 11 = .ok (.getfield 20, 3) := by decide +kernel
theorem dX3_leastJam_14 : decode cX3_leastJam 14 = .ok (.iload_n 1, 1) := by decide +kernel
theorem dX3_leastJam_15 : decode cX3_leastJam 15 = .ok (.invokevirtual 74, 3) := by decide +kernel
theorem dX3_leastJam_18 : decode cX3_leastJam 18 = .ok (.iconst (-1), 1) := by decide +kernel
theorem dX3_leastJam_19 : decode cX3_leastJam 19 = .ok (.if_icmp .eq 13, 3) := by decide +kernel
theorem dX3_leastJam_22 : decode cX3_leastJam 22 = .ok (.aload_n 0, 1) := by decide +kernel
theorem dX3_leastJam_23 : decode cX3_leastJam 23 = .ok (.iload_n 1, 1) := by decide +kernel
theorem dX3_leastJam_24 : decode cX3_leastJam 24 = .ok (.invokevirtual 113, 3) := by decide +kernel
theorem dX3_leastJam_27 : decode cX3_leastJam 27 = .ok (.ifCond .eq 5, 3) := by decide +kernel
theorem dX3_leastJam_30 : decode cX3_leastJam 30 = .ok (.iload_n 1, 1) := by decide +kernel
theorem dX3_leastJam_31 : decode cX3_leastJam 31 = .ok (.ireturn, 1) := by decide +kernel
theorem dX3_leastJam_32 : decode cX3_leastJam 32 = .ok (.iinc 1 1, 3) := by decide +kernel
theorem dX3_leastJam_35 : decode cX3_leastJam 35 = .ok (.goto (-33), 3) := by decide +kernel
theorem dX3_leastJam_38 : decode cX3_leastJam 38 = .ok (.iconst (-1), 1) := by decide +kernel
theorem dX3_leastJam_39 : decode cX3_leastJam 39 = .ok (.ireturn, 1) := by decide +kernel
theorem dX4_init_0 : decode cX4_init 0 = .ok (.aload_n 0, 1) := by decide +kernel
theorem dX4_init_1 : decode cX4_init 1 = .ok (.invokespecial 3, 3) := by decide +kernel
theorem dX4_init_4 : decode cX4_init 4 = .ok (.aload_n 0, 1) := by decide +kernel
theorem dX4_init_5 : decode cX4_init 5 = .ok (.iconst 0, 1) := by decide +kernel
theorem dX4_init_6 : decode cX4_init 6 = .ok (.putfield 9, 3) := by decide +kernel
theorem dX4_init_9 : decode cX4_init 9 = .ok (.aload_n 0, 1) := by decide +kernel
theorem dX4_init_10 : decode cX4_init 10 = .ok (.iconst 0, 1) := by decide +kernel
theorem dX4_init_11 : decode cX4_init 11 = .ok (.putfield 15, 3) := by decide +kernel
theorem dX4_init_14 : decode cX4_init 14 = .ok (.aload_n 0, 1) := by decide +kernel
theorem dX4_init_15 : decode cX4_init 15 = .ok (.iconst 0, 1) := by decide +kernel
theorem dX4_init_16 : decode cX4_init 16 = .ok (.putfield 18, 3) := by decide +kernel
theorem dX4_init_19 : decode cX4_init 19 = .ok (.aload_n 0, 1) := by decide +kernel
theorem dX4_init_20 : decode cX4_init 20 = .ok (.iconst 0, 1) := by decide +kernel
theorem dX4_init_21 : decode cX4_init 21 = .ok (.putfield 21, 3) := by decide +kernel
theorem dX4_init_24 : decode cX4_init 24 = .ok (.aload_n 0, 1) := by decide +kernel
theorem dX4_init_25 : decode cX4_init 25 = .ok (.iconst 0, 1) := by decide +kernel
theorem dX4_init_26 : decode cX4_init 26 = .ok (.putfield 24, 3) := by decide +kernel
theorem dX4_init_29 : decode cX4_init 29 = .ok (.aload_n 0, 1) := by decide +kernel
theorem dX4_init_30 : decode cX4_init 30 = .ok (.new 27, 3) := by decide +kernel
theorem dX4_init_33 : decode cX4_init 33 = .ok (.dup, 1) := by decide +kernel
theorem dX4_init_34 : decode cX4_init 34 = .ok (.bipush 7, 2) := by decide +kernel
theorem dX4_init_36 : decode cX4_init 36 = .ok (.invokespecial 29, 3) := by decide +kernel
theorem dX4_init_39 : decode cX4_init 39 = .ok (.putfield 32, 3) := by decide +kernel
theorem dX4_init_42 : decode cX4_init 42 = .ok (.aload_n 0, 1) := by decide +kernel
theorem dX4_init_43 : decode cX4_init 43 = .ok (.new 27, 3) := by decide +kernel
theorem dX4_init_46 : decode cX4_init 46 = .ok (.dup, 1) := by decide +kernel
theorem dX4_init_47 : decode cX4_init 47 = .ok (.bipush 10, 2) := by decide +kernel
theorem dX4_init_49 : decode cX4_init 49 = .ok (.invokespecial 29, 3) := by decide +kernel
theorem dX4_init_52 : decode cX4_init 52 = .ok (.putfield 36, 3) := by decide +kernel
theorem dX4_init_55 : decode cX4_init 55 = .ok (.aload_n 0, 1) := by decide +kernel
theorem dX4_init_56 : decode cX4_init 56 = .ok (.new 27, 3) := by decide +kernel
theorem dX4_init_59 : decode cX4_init 59 = .ok (.dup, 1) := by decide +kernel
theorem dX4_init_60 : decode cX4_init 60 = .ok (.bipush 10, 2) := by decide +kernel
theorem dX4_init_62 : decode cX4_init 62 = .ok (.invokespecial 29, 3) := by decide +kernel
theorem dX4_init_65 : decode cX4_init 65 = .ok (.putfield 39, 3) := by decide +kernel
theorem dX4_init_68 : decode cX4_init 68 = .ok (.aload_n 0, 1) := by decide +kernel
theorem dX4_init_69 : decode cX4_init 69 = .ok (.new 27, 3) := by decide +kernel
theorem dX4_init_72 : decode cX4_init 72 = .ok (.dup, 1) := by decide +kernel
theorem dX4_init_73 : decode cX4_init 73 = .ok (.bipush 10, 2) := by decide +kernel
theorem dX4_init_75 : decode cX4_init 75 = .ok (.invokespecial 29, 3) := by decide +kernel
theorem dX4_init_78 : decode cX4_init 78 = .ok (.putfield 42, 3) := by decide +kernel
theorem dX4_init_81 : decode cX4_init 81 = .ok (.aload_n 0, 1) := by decide +kernel
theorem dX4_init_82 : decode cX4_init 82 = .ok (.new 27, 3) := by decide +kernel
theorem dX4_init_85 : decode cX4_init 85 = .ok (.dup, 1) := by decide +kernel
theorem dX4_init_86 : decode cX4_init 86 = .ok (.bipush 10, 2) := by decide +kernel
theorem dX4_init_88 : decode cX4_init 88 = .ok (.invokespecial 29, 3) := by decide +kernel
theorem dX4_init_91 : decode cX4_init 91 = .ok (.putfield 45, 3) := by decide +kernel
theorem dX4_init_94 : decode cX4_init 94 = .ok (.aload_n 0, 1) := by decide +kernel
theorem dX4_init_95 : decode cX4_init 95 = .ok (.new 27, 3) := by decide +kernel
theorem dX4_init_98 : decode cX4_init 98 = .ok (.dup, 1) := by decide +kernel
theorem dX4_init_99 : decode cX4_init 99 = .ok (.bipush 6, 2) := by decide +kernel
theorem dX4_init_101 : decode cX4_init 101 = .ok (.invokespecial 29, 3) := by decide +kernel
theorem dX4_init_104 : decode cX4_init 104 = .ok (.putfield 48, 3) := by decide +kernel
theorem dX4_init_107 : decode cX4_init 107 = .ok (.aload_n 0, 1) := by decide +kernel
theorem dX4_init_108 : decode cX4_init 108 = .ok (.new 27, 3) := by decide +kernel
theorem dX4_init_111 : decode cX4_init 111 = .ok (.dup, 1) := by decide +kernel
theorem dX4_init_112 : decode cX4_init 112 = .ok (.bipush 8, 2) := by decide +kernel
theorem dX4_init_114 : decode cX4_init 114 = .ok (.invokespecial 29, 3) := by decide +kernel
theorem dX4_init_117 : decode cX4_init 117 = .ok (.putfield 51, 3) := by decide +kernel
theorem dX4_init_120 : decode cX4_init 120 = .ok (.aload_n 0, 1) := by decide +kernel
theorem dX4_init_121 : decode cX4_init 121 = .ok (.new 27, 3) := by decide +kernel
theorem dX4_init_124 : decode cX4_init 124 = .ok (.dup, 1) := by decide +kernel
theorem dX4_init_125 : decode cX4_init 125 = .ok (.bipush 8, 2) := by decide +kernel
theorem dX4_init_127 : decode cX4_init 127 = .ok (.invokespecial 29, 3) := by decide +kernel
theorem dX4_init_130 : decode cX4_init 130 = .ok (.putfield 54, 3) := by decide +kernel
theorem dX4_init_133 : decode cX4_init 133 = .ok (.aload_n 0, 1) := by decide +kernel
theorem dX4_init_134 : decode cX4_init 134 = .ok (.new 27, 3) := by decide +kernel
theorem dX4_init_137 : decode cX4_init 137 = .ok (.dup, 1) := by decide +kernel
theorem dX4_init_138 : decode cX4_init 138 = .ok (.bipush 20, 2) := by decide +kernel
theorem dX4_init_140 : decode cX4_init 140 = .ok (.invokespecial 29, 3) := by decide +kernel
theorem dX4_init_143 : decode cX4_init 143 = .ok (.putfield 57, 3) := by decide +kernel
theorem dX4_init_146 : decode cX4_init 146 = .ok (.aload_n 0, 1) := by decide +kernel
theorem dX4_init_147 : decode cX4_init 147 = .ok (.iconst 5, 1) := by decide +kernel
theorem dX4_init_148 : decode cX4_init 148 = .ok (.invokevirtual 60, 3) := by decide +kernel
theorem dX4_init_151 : decode cX4_init 151 = .ok (.pop, 1) := by decide +kernel
theorem dX4_init_152 : decode cX4_init 152 = .ok (.return_, 1) := by decide +kernel
theorem dX4_tellDrawers_0 : decode cX4_tellDrawers 0 = .ok (.iload_n 1, 1) := by decide +kernel
theorem dX4_tellDrawers_1 : decode cX4_tellDrawers 1 = .ok (.iconst 2, 1) := by decide +kernel
theorem dX4_tellDrawers_2 : decode cX4_tellDrawers 2 = .ok (.if_icmp .lt 9, 3) := by decide +kernel
theorem dX4_tellDrawers_5 : decode cX4_tellDrawers 5 = .ok (.iload_n 1, 1) := by decide +kernel
theorem dX4_tellDrawers_6 : decode cX4_tellDrawers 6 = .ok (.bipush 7, 2) := by decide +kernel
theorem dX4_tellDrawers_8 : decode cX4_tellDrawers 8 = .ok (.if_icmp .le 6, 3) := by decide +kernel
theorem dX4_tellDrawers_11 : decode cX4_tellDrawers 11 = .ok (.bipush (-2), 2) := by decide +kernel
theorem dX4_tellDrawers_13 : decode cX4_tellDrawers 13 = .ok (.ireturn, 1) := by decide +kernel
theorem dX4_tellDrawers_14 : decode cX4_tellDrawers 14 = .ok (.aload_n 0, 1) := by decide +kernel
theorem dX4_tellDrawers_15 : decode cX4_tellDrawers 15 = .ok (.getfield 9, 3) := by decide +kernel
theorem dX4_tellDrawers_18 : decode cX4_tellDrawers 18 = .ok (.istore_n 2, 1) := by decide +kernel
theorem dX4_tellDrawers_19 : decode cX4_tellDrawers 19 = .ok (.aload_n 0, 1) := by decide +kernel
theorem dX4_tellDrawers_20 : decode cX4_tellDrawers 20 = .ok (.iload_n 1, 1) := by decide +kernel
theorem dX4_tellDrawers_21 : decode cX4_tellDrawers 21 = .ok (.putfield 9, 3) := by decide +kernel
theorem dX4_tellDrawers_24 : decode cX4_tellDrawers 24 = .ok (.aload_n 0, 1) := by decide +kernel
theorem dX4_tellDrawers_25 : decode cX4_tellDrawers 25 = .ok (.iconst 0, 1) := by decide +kernel
theorem dX4_tellDrawers_26 : decode cX4_tellDrawers 26 = .ok (.putfield 15, 3) := by decide +kernel
theorem dX4_tellDrawers_29 : decode cX4_tellDrawers 29 = .ok (.aload_n 0, 1) := by decide +kernel
theorem dX4_tellDrawers_30 : decode cX4_tellDrawers 30 = .ok (.iconst 0, 1) := by decide +kernel
theorem dX4_tellDrawers_31 : decode cX4_tellDrawers 31 = .ok (.putfield 18, 3) := by decide +kernel
theorem dX4_tellDrawers_34 : decode cX4_tellDrawers 34 = .ok (.aload_n 0, 1) := by decide +kernel
theorem dX4_tellDrawers_35 : decode cX4_tellDrawers 35 = .ok (.iconst 0, 1) := by decide +kernel
theorem dX4_tellDrawers_36 : decode cX4_tellDrawers 36 = .ok (.putfield 21, 3) := by decide +kernel
theorem dX4_tellDrawers_39 : decode cX4_tellDrawers 39 = .ok (.aload_n 0, 1) := by decide +kernel
theorem dX4_tellDrawers_40 : decode cX4_tellDrawers 40 = .ok (.iconst 0, 1) := by decide +kernel
theorem dX4_tellDrawers_41 : decode cX4_tellDrawers 41 = .ok (.putfield 24, 3) := by decide +kernel
theorem dX4_tellDrawers_44 : decode cX4_tellDrawers 44 = .ok (.aload_n 0, 1) := by decide +kernel
theorem dX4_tellDrawers_45 : decode cX4_tellDrawers 45 = .ok (.getfield 32, 3) := by decide +kernel
theorem dX4_tellDrawers_48 : decode cX4_tellDrawers 48 = .ok (.invokevirtual 64, 3) := by decide +kernel
theorem dX4_tellDrawers_51 : decode cX4_tellDrawers 51 = .ok (.iconst 0, 1) := by decide +kernel
theorem dX4_tellDrawers_52 : decode cX4_tellDrawers 52 = .ok (.istore_n 3, 1) := by decide +kernel
theorem dX4_tellDrawers_53 : decode cX4_tellDrawers 53 = .ok (.iload_n 3, 1) := by decide +kernel
theorem dX4_tellDrawers_54 : decode cX4_tellDrawers 54 = .ok (.iload_n 1, 1) := by decide +kernel
theorem dX4_tellDrawers_55 : decode cX4_tellDrawers 55 = .ok (.if_icmp .ge 17, 3) := by decide +kernel
theorem dX4_tellDrawers_58 : decode cX4_tellDrawers 58 = .ok (.aload_n 0, 1) := by decide +kernel
theorem dX4_tellDrawers_59 : decode cX4_tellDrawers 59 = .ok (.getfield 32, 3) := by decide +kernel
theorem dX4_tellDrawers_62 : decode cX4_tellDrawers 62 = .ok (.iload_n 3, 1) := by decide +kernel
theorem dX4_tellDrawers_63 : decode cX4_tellDrawers 63 = .ok (.invokevirtual 67, 3) := by decide +kernel
theorem dX4_tellDrawers_66 : decode cX4_tellDrawers 66 = .ok (.iinc 3 1, 3) := by decide +kernel
theorem dX4_tellDrawers_69 : decode cX4_tellDrawers 69 = .ok (.goto (-16), 3) := by decide +kernel
theorem dX4_tellDrawers_72 : decode cX4_tellDrawers 72 = .ok (.aload_n 0, 1) := by decide +kernel
theorem dX4_tellDrawers_73 : decode cX4_tellDrawers 73 = .ok (.getfield 36, 3) := by decide +kernel
theorem dX4_tellDrawers_76 : decode cX4_tellDrawers 76 = .ok (.invokevirtual 64, 3) := by decide +kernel
theorem dX4_tellDrawers_79 : decode cX4_tellDrawers 79 = .ok (.aload_n 0, 1) := by decide +kernel
theorem dX4_tellDrawers_80 : decode cX4_tellDrawers 80 = .ok (.getfield 39, 3) := by decide +kernel
theorem dX4_tellDrawers_83 : decode cX4_tellDrawers 83 = .ok (.invokevirtual 64, 3) := by decide +kernel
theorem dX4_tellDrawers_86 : decode cX4_tellDrawers 86 = .ok (.aload_n 0, 1) := by decide +kernel
theorem dX4_tellDrawers_87 : decode cX4_tellDrawers 87 = .ok (.getfield 42, 3) := by decide +kernel
theorem dX4_tellDrawers_90 : decode cX4_tellDrawers 90 = .ok (.invokevirtual 64, 3) := by decide +kernel
theorem dX4_tellDrawers_93 : decode cX4_tellDrawers 93 = .ok (.aload_n 0, 1) := by decide +kernel
theorem dX4_tellDrawers_94 : decode cX4_tellDrawers 94 = .ok (.getfield 45, 3) := by decide +kernel
theorem dX4_tellDrawers_97 : decode cX4_tellDrawers 97 = .ok (.invokevirtual 64, 3) := by decide +kernel
theorem dX4_tellDrawers_100 : decode cX4_tellDrawers 100 = .ok (.aload_n 0, 1) := by decide +kernel
theorem dX4_tellDrawers_101 : decode cX4_tellDrawers 101 = .ok (.getfield 48, 3) := by decide +kernel
theorem dX4_tellDrawers_104 : decode cX4_tellDrawers 104 = .ok (.invokevirtual 64, 3) := by decide +kernel
theorem dX4_tellDrawers_107 : decode cX4_tellDrawers 107 = .ok (.aload_n 0, 1) := by decide +kernel
theorem dX4_tellDrawers_108 : decode cX4_tellDrawers 108 = .ok (.getfield 51, 3) := by decide +kernel
theorem dX4_tellDrawers_111 : decode cX4_tellDrawers 111 = .ok (.invokevirtual 64, 3) := by decide +kernel
theorem dX4_tellDrawers_114 : decode cX4_tellDrawers 114 = .ok (.aload_n 0, 1) := by decide +kernel
theorem dX4_tellDrawers_115 : decode cX4_tellDrawers 115 = .ok (.getfield 54, 3) := by decide +kernel
theorem dX4_tellDrawers_118 : decode cX4_tellDrawers 118 = .ok (.invokevirtual 64, 3) := by decide +kernel
theorem dX4_tellDrawers_121 : decode cX4_tellDrawers 121 = .ok (.aload_n 0, 1) := by decide +kernel
theorem dX4_tellDrawers_122 : decode cX4_tellDrawers 122 = .ok (.getfield 57, 3) := by decide +kernel
theorem dX4_tellDrawers_125 : decode cX4_tellDrawers 125 = .ok (.invokevirtual 64, 3) := by decide +kernel
theorem dX4_tellDrawers_128 : decode cX4_tellDrawers 128 = .ok (.iload_n 2, 1) := by decide +kernel
theorem dX4_tellDrawers_129 : decode cX4_tellDrawers 129 = .ok (.ireturn, 1) := by decide +kernel
theorem dX4_tellCord_0 : decode cX4_tellCord 0 = .ok (.aload_n 0, 1) := by decide +kernel
theorem dX4_tellCord_1 : decode cX4_tellCord 1 = .ok (.iload_n 1, 1) := by decide +kernel
theorem dX4_tellCord_2 : decode cX4_tellCord 2 = .ok (.invokevirtual 70, 3) := by decide +kernel
theorem dX4_tellCord_5 : decode cX4_tellCord 5 = .ok (.ifCond .eq 16, 3) := by decide +kernel
theorem dX4_tellCord_8 : decode cX4_tellCord 8 = .ok (.aload_n 0, 1) := by decide +kernel
theorem dX4_tellCord_9 : decode cX4_tellCord 9 = .ok (.iload_n 2, 1) := by decide +kernel
theorem dX4_tellCord_10 : decode cX4_tellCord 10 = .ok (.invokevirtual 70, 3) := by decide +kernel
theorem dX4_tellCord_13 : decode cX4_tellCord 13 = .ok (.ifCond .eq 8, 3) := by decide +kernel
theorem dX4_tellCord_16 : decode cX4_tellCord 16 = .ok (.iload_n 1, 1) := by decide +kernel
theorem dX4_tellCord_17 : decode cX4_tellCord 17 = .ok (.iload_n 2, 1) := by decide +kernel
theorem dX4_tellCord_18 : decode cX4_tellCord 18 = .ok (.if_icmp .ne 6, 3) := by decide +kernel
theorem dX4_tellCord_21 : decode cX4_tellCord 21 = .ok (.bipush (-2), 2) := by decide +kernel
theorem dX4_tellCord_23 : decode cX4_tellCord 23 = .ok (.ireturn, 1) := by decide +kernel
theorem dX4_tellCord_24 : decode cX4_tellCord 24 = .ok (.iload_n 3, 1) := by decide +kernel
theorem dX4_tellCord_25 : decode cX4_tellCord 25 = .ok (.ifCond .lt 27, 3) := by decide +kernel
theorem dX4_tellCord_28 : decode cX4_tellCord 28 = .ok (.iload_n 3, 1) := by decide +kernel
theorem dX4_tellCord_29 : decode cX4_tellCord 29 = .ok (.bipush 6, 2) := by decide +kernel
theorem dX4_tellCord_31 : decode cX4_tellCord 31 = .ok (.if_icmp .ge 21, 3) := by decide +kernel
theorem dX4_tellCord_34 : decode cX4_tellCord 34 = .ok (.iload 4, 2) := by decide +kernel
theorem dX4_tellCord_36 : decode cX4_tellCord 36 = .ok (.bipush (-2), 2) := by decide +kernel
theorem dX4_tellCord_38 : decode cX4_tellCord 38 = .ok (.if_icmp .lt 14, 3) := by decide +kernel
theorem dX4_tellCord_41 : decode cX4_tellCord 41 = .ok (.iload 4, 2) := by decide +kernel
theorem dX4_tellCord_43 : decode cX4_tellCord 43 = .ok (.iconst 2, 1) := by decide +kernel
theorem dX4_tellCord_44 : decode cX4_tellCord 44 = .ok (.if_icmp .gt 8, 3) := by decide +kernel
theorem dX4_tellCord_47 : decode cX4_tellCord 47 = .ok (.iload 4, 2) := by decide +kernel
theorem dX4_tellCord_49 : decode cX4_tellCord 49 = .ok (.ifCond .ne 6, 3) := by decide +kernel
theorem dX4_tellCord_52 : decode cX4_tellCord 52 = .ok (.bipush (-2), 2) := by decide +kernel
theorem dX4_tellCord_54 : decode cX4_tellCord 54 = .ok (.ireturn, 1) := by decide +kernel
theorem dX4_tellCord_55 : decode cX4_tellCord 55 = .ok (.aload_n 0, 1) := by decide +kernel
theorem dX4_tellCord_56 : decode cX4_tellCord 56 = .ok (.getfield 36, 3) := by decide +kernel
theorem dX4_tellCord_59 : decode cX4_tellCord 59 = .ok (.invokevirtual 74, 3) := by decide +kernel
theorem dX4_tellCord_62 : decode cX4_tellCord 62 = .ok (.ifCond .eq 6, 3) := by decide +kernel
theorem dX4_tellCord_65 : decode cX4_tellCord 65 = .ok (.bipush (-4), 2) := by decide +kernel
theorem dX4_tellCord_67 : decode cX4_tellCord 67 = .ok (.ireturn, 1) := by decide +kernel
theorem dX4_tellCord_68 : decode cX4_tellCord 68 = .ok (.aload_n 0, 1) := by decide +kernel
theorem dX4_tellCord_69 : decode cX4_tellCord 69 = .ok (.getfield 36, 3) := by decide +kernel
theorem dX4_tellCord_72 : decode cX4_tellCord 72 = .ok (.iload_n 1, 1) := by decide +kernel
theorem dX4_tellCord_73 : decode cX4_tellCord 73 = .ok (.invokevirtual 67, 3) := by decide +kernel
theorem dX4_tellCord_76 : decode cX4_tellCord 76 = .ok (.aload_n 0, 1) := by decide +kernel
theorem dX4_tellCord_77 : decode cX4_tellCord 77 = .ok (.getfield 39, 3) := by decide +kernel
theorem dX4_tellCord_80 : decode cX4_tellCord 80 = .ok (.iload_n 2, 1) := by decide +kernel
theorem dX4_tellCord_81 : decode cX4_tellCord 81 = .ok (.invokevirtual 67, 3) := by decide +kernel
theorem dX4_tellCord_84 : decode cX4_tellCord 84 = .ok (.aload_n 0, 1) := by decide +kernel
theorem dX4_tellCord_85 : decode cX4_tellCord 85 = .ok (.getfield 42, 3) := by decide +kernel
theorem dX4_tellCord_88 : decode cX4_tellCord 88 = .ok (.iload_n 3, 1) := by decide +kernel
theorem dX4_tellCord_89 : decode cX4_tellCord 89 = .ok (.invokevirtual 67, 3) := by decide +kernel
theorem dX4_tellCord_92 : decode cX4_tellCord 92 = .ok (.aload_n 0, 1) := by decide +kernel
theorem dX4_tellCord_93 : decode cX4_tellCord 93 = .ok (.getfield 45, 3) := by decide +kernel
theorem dX4_tellCord_96 : decode cX4_tellCord 96 = .ok (.iload 4, 2) := by decide +kernel
theorem dX4_tellCord_98 : decode cX4_tellCord 98 = .ok (.invokevirtual 67, 3) := by decide +kernel
theorem dX4_tellCord_101 : decode cX4_tellCord 101 = .ok (.aload_n 0, 1) := by decide +kernel
theorem dX4_tellCord_102 : decode cX4_tellCord 102 = .ok (.getfield 36, 3) := by decide +kernel
theorem dX4_tellCord_105 : decode cX4_tellCord 105 = .ok (.invokevirtual 78, 3) := by decide +kernel
theorem dX4_tellCord_108 : decode cX4_tellCord 108 = .ok (.iconst 1, 1) := by decide +kernel
theorem dX4_tellCord_109 : decode cX4_tellCord 109 = .ok (.isub, 1) := by decide +kernel
theorem dX4_tellCord_110 : decode cX4_tellCord 110 = .ok (.ireturn, 1) := by decide +kernel
theorem dX4_tellCatch_0 : decode cX4_tellCatch 0 = .ok (.aload_n 0, 1) := by decide +kernel
theorem dX4_tellCatch_1 : decode cX4_tellCatch 1 = .ok (.iload_n 1, 1) := by decide +kernel
theorem dX4_tellCatch_2 : decode cX4_tellCatch 2 = .ok (.invokevirtual 70, 3) := by decide +kernel
theorem dX4_tellCatch_5 : decode cX4_tellCatch 5 = .ok (.ifCond .ne 6, 3) := by decide +kernel
theorem dX4_tellCatch_8 : decode cX4_tellCatch 8 = .ok (.bipush (-2), 2) := by decide +kernel
theorem dX4_tellCatch_10 : decode cX4_tellCatch 10 = .ok (.ireturn, 1) := by decide +kernel
theorem dX4_tellCatch_11 : decode cX4_tellCatch 11 = .ok (.aload_n 0, 1) := by decide +kernel
theorem dX4_tellCatch_12 : decode cX4_tellCatch 12 = .ok (.iload_n 1, 1) := by decide +kernel
theorem dX4_tellCatch_13 : decode cX4_tellCatch 13 = .ok (.invokevirtual 82, 3) := by decide +kernel
theorem dX4_tellCatch_16 : decode cX4_tellCatch 16 = .ok (.iload_n 2, 1) := by decide +kernel
theorem dX4_tellCatch_17 : decode cX4_tellCatch 17 = .ok (.if_icmp .ne 6, 3) := by decide +kernel
theorem dX4_tellCatch_20 : decode cX4_tellCatch 20 = .ok (.bipush (-3), 2) := by decide +kernel
theorem dX4_tellCatch_22 : decode cX4_tellCatch 22 = .ok (.ireturn, 1) := by decide +kernel
theorem dX4_tellCatch_23 : decode cX4_tellCatch 23 = .ok (.aload_n 0, 1) := by decide +kernel
theorem dX4_tellCatch_24 : decode cX4_tellCatch 24 = .ok (.dup, 1) := by decide +kernel
theorem dX4_tellCatch_25 : decode cX4_tellCatch 25 = .ok (.getfield 18, 3) := by decide +kernel
theorem dX4_tellCatch_28 : decode cX4_tellCatch 28 = .ok (.iconst 1, 1) := by decide +kernel
theorem dX4_tellCatch_29 : decode cX4_tellCatch 29 = .ok (.iload_n 1, 1) := by decide +kernel
theorem dX4_tellCatch_30 : decode cX4_tellCatch 30 = .ok (.ishl, 1) := by decide +kernel
theorem dX4_tellCatch_31 : decode cX4_tellCatch 31 = .ok (.ixor, 1) := by decide +kernel
theorem dX4_tellCatch_32 : decode cX4_tellCatch 32 = .ok (.putfield 18, 3) := by decide +kernel
theorem dX4_tellCatch_35 : decode cX4_tellCatch 35 = .ok (.iconst 1, 1) := by decide +kernel
theorem dX4_tellCatch_36 : decode cX4_tellCatch 36 = .ok (.ireturn, 1) := by decide +kernel
theorem dX4_tellGoods_0 : decode cX4_tellGoods 0 = .ok (.aload_n 0, 1) := by decide +kernel
theorem dX4_tellGoods_1 : decode cX4_tellGoods 1 = .ok (.iload_n 1, 1) := by decide +kernel
theorem dX4_tellGoods_2 : decode cX4_tellGoods 2 = .ok (.invokevirtual 70, 3) := by decide +kernel
theorem dX4_tellGoods_5 : decode cX4_tellGoods 5 = .ok (.ifCond .eq 13, 3) := by decide +kernel
theorem dX4_tellGoods_8 : decode cX4_tellGoods 8 = .ok (.iload_n 2, 1) := by decide +kernel
theorem dX4_tellGoods_9 : decode cX4_tellGoods 9 = .ok (.ifCond .lt 9, 3) := by decide +kernel
theorem dX4_tellGoods_12 : decode cX4_tellGoods 12 = .ok (.iload_n 2, 1) := by decide +kernel
theorem dX4_tellGoods_13 : decode cX4_tellGoods 13 = .ok (.bipush 7, 2) := by decide +kernel
theorem dX4_tellGoods_15 : decode cX4_tellGoods 15 = .ok (.if_icmp .lt 6, 3) := by decide +kernel
theorem dX4_tellGoods_18 : decode cX4_tellGoods 18 = .ok (.bipush (-2), 2) := by decide +kernel
theorem dX4_tellGoods_20 : decode cX4_tellGoods 20 = .ok (.ireturn, 1) := by decide +kernel
theorem dX4_tellGoods_21 : decode cX4_tellGoods 21 = .ok (.aload_n 0, 1) := by decide +kernel
theorem dX4_tellGoods_22 : decode cX4_tellGoods 22 = .ok (.getfield 32, 3) := by decide +kernel
theorem dX4_tellGoods_25 : decode cX4_tellGoods 25 = .ok (.iload_n 1, 1) := by decide +kernel
theorem dX4_tellGoods_26 : decode cX4_tellGoods 26 = .ok (.invokevirtual 85, 3) := by decide +kernel
theorem dX4_tellGoods_29 : decode cX4_tellGoods 29 = .ok (.istore_n 3, 1) := by decide +kernel
theorem dX4_tellGoods_30 : decode cX4_tellGoods 30 = .ok (.aload_n 0, 1) := by decide +kernel
theorem dX4_tellGoods_31 : decode cX4_tellGoods 31 = .ok (.getfield 32, 3) := by decide +kernel
theorem dX4_tellGoods_34 : decode cX4_tellGoods 34 = .ok (.iload_n 1, 1) := by decide +kernel
theorem dX4_tellGoods_35 : decode cX4_tellGoods 35 = .ok (.iload_n 2, 1) := by decide +kernel
theorem dX4_tellGoods_36 : decode cX4_tellGoods 36 = .ok (.invokevirtual 88, 3) := by decide +kernel
theorem dX4_tellGoods_39 : decode cX4_tellGoods 39 = .ok (.iload_n 3, 1) := by decide +kernel
theorem dX4_tellGoods_40 : decode cX4_tellGoods 40 = .ok (.ireturn, 1) := by decide +kernel
theorem dX4_tellOrder_0 : decode cX4_tellOrder 0 = .ok (.iload_n 1, 1) := by decide +kernel
theorem dX4_tellOrder_1 : decode cX4_tellOrder 1 = .ok (.ifCond .lt 9, 3) := by decide +kernel
theorem dX4_tellOrder_4 : decode cX4_tellOrder 4 = .ok (.iload_n 1, 1) := by decide +kernel
theorem dX4_tellOrder_5 : decode cX4_tellOrder 5 = .ok (.bipush 7, 2) := by decide +kernel
theorem dX4_tellOrder_7 : decode cX4_tellOrder 7 = .ok (.if_icmp .lt 6, 3) := by decide +kernel
theorem dX4_tellOrder_10 : decode cX4_tellOrder 10 = .ok (.bipush (-2), 2) := by decide +kernel
theorem dX4_tellOrder_12 : decode cX4_tellOrder 12 = .ok (.ireturn, 1) := by decide +kernel
theorem dX4_tellOrder_13 : decode cX4_tellOrder 13 = .ok (.aload_n 0, 1) := by decide +kernel
theorem dX4_tellOrder_14 : decode cX4_tellOrder 14 = .ok (.getfield 48, 3) := by decide +kernel
theorem dX4_tellOrder_17 : decode cX4_tellOrder 17 = .ok (.invokevirtual 74, 3) := by decide +kernel
theorem dX4_tellOrder_20 : decode cX4_tellOrder 20 = .ok (.ifCond .eq 6, 3) := by decide +kernel
theorem dX4_tellOrder_23 : decode cX4_tellOrder 23 = .ok (.bipush (-4), 2) := by decide +kernel
theorem dX4_tellOrder_25 : decode cX4_tellOrder 25 = .ok (.ireturn, 1) := by decide +kernel
theorem dX4_tellOrder_26 : decode cX4_tellOrder 26 = .ok (.aload_n 0, 1) := by decide +kernel
theorem dX4_tellOrder_27 : decode cX4_tellOrder 27 = .ok (.getfield 48, 3) := by decide +kernel
theorem dX4_tellOrder_30 : decode cX4_tellOrder 30 = .ok (.iload_n 1, 1) := by decide +kernel
theorem dX4_tellOrder_31 : decode cX4_tellOrder 31 = .ok (.invokevirtual 67, 3) := by decide +kernel
theorem dX4_tellOrder_34 : decode cX4_tellOrder 34 = .ok (.aload_n 0, 1) := by decide +kernel
theorem dX4_tellOrder_35 : decode cX4_tellOrder 35 = .ok (.getfield 48, 3) := by decide +kernel
theorem dX4_tellOrder_38 : decode cX4_tellOrder 38 = .ok (.invokevirtual 78, 3) := by decide +kernel
theorem dX4_tellOrder_41 : decode cX4_tellOrder 41 = .ok (.iconst 1, 1) := by decide +kernel
theorem dX4_tellOrder_42 : decode cX4_tellOrder 42 = .ok (.isub, 1) := by decide +kernel
theorem dX4_tellOrder_43 : decode cX4_tellOrder 43 = .ok (.ireturn, 1) := by decide +kernel
theorem dX4_copyFrom_0 : decode cX4_copyFrom 0 = .ok (.aload_n 0, 1) := by decide +kernel
theorem dX4_copyFrom_1 : decode cX4_copyFrom 1 = .ok (.aload_n 1, 1) := by decide +kernel
theorem dX4_copyFrom_2 : decode cX4_copyFrom 2 = .ok (.getfield 9, 3) := by decide +kernel
theorem dX4_copyFrom_5 : decode cX4_copyFrom 5 = .ok (.putfield 9, 3) := by decide +kernel
theorem dX4_copyFrom_8 : decode cX4_copyFrom 8 = .ok (.aload_n 0, 1) := by decide +kernel
theorem dX4_copyFrom_9 : decode cX4_copyFrom 9 = .ok (.aload_n 1, 1) := by decide +kernel
theorem dX4_copyFrom_10 : decode cX4_copyFrom 10 = .ok (.getfield 15, 3) := by decide +kernel
theorem dX4_copyFrom_13 : decode cX4_copyFrom 13 = .ok (.putfield 15, 3) := by decide +kernel
theorem dX4_copyFrom_16 : decode cX4_copyFrom 16 = .ok (.aload_n 0, 1) := by decide +kernel
theorem dX4_copyFrom_17 : decode cX4_copyFrom 17 = .ok (.aload_n 1, 1) := by decide +kernel
theorem dX4_copyFrom_18 : decode cX4_copyFrom 18 = .ok (.getfield 18, 3) := by decide +kernel
theorem dX4_copyFrom_21 : decode cX4_copyFrom 21 = .ok (.putfield 18, 3) := by decide +kernel
theorem dX4_copyFrom_24 : decode cX4_copyFrom 24 = .ok (.aload_n 0, 1) := by decide +kernel
theorem dX4_copyFrom_25 : decode cX4_copyFrom 25 = .ok (.aload_n 1, 1) := by decide +kernel
theorem dX4_copyFrom_26 : decode cX4_copyFrom 26 = .ok (.getfield 21, 3) := by decide +kernel
theorem dX4_copyFrom_29 : decode cX4_copyFrom 29 = .ok (.putfield 21, 3) := by decide +kernel
theorem dX4_copyFrom_32 : decode cX4_copyFrom 32 = .ok (.aload_n 0, 1) := by decide +kernel
theorem dX4_copyFrom_33 : decode cX4_copyFrom 33 = .ok (.aload_n 1, 1) := by decide +kernel
theorem dX4_copyFrom_34 : decode cX4_copyFrom 34 = .ok (.getfield 24, 3) := by decide +kernel
theorem dX4_copyFrom_37 : decode cX4_copyFrom 37 = .ok (.putfield 24, 3) := by decide +kernel
theorem dX4_copyFrom_40 : decode cX4_copyFrom 40 = .ok (.aload_n 0, 1) := by decide +kernel
theorem dX4_copyFrom_41 : decode cX4_copyFrom 41 = .ok (.getfield 32, 3) := by decide +kernel
theorem dX4_copyFrom_44 : decode cX4_copyFrom 44 = .ok (.aload_n 1, 1) := by decide +kernel
theorem dX4_copyFrom_45 : decode cX4_copyFrom 45 = .ok (.getfield 32, 3) := by decide +kernel
theorem dX4_copyFrom_48 : decode cX4_copyFrom 48 = .ok (.invokevirtual 92, 3) := by decide +kernel
theorem dX4_copyFrom_51 : decode cX4_copyFrom 51 = .ok (.aload_n 0, 1) := by decide +kernel
theorem dX4_copyFrom_52 : decode cX4_copyFrom 52 = .ok (.getfield 36, 3) := by decide +kernel
theorem dX4_copyFrom_55 : decode cX4_copyFrom 55 = .ok (.aload_n 1, 1) := by decide +kernel
theorem dX4_copyFrom_56 : decode cX4_copyFrom 56 = .ok (.getfield 36, 3) := by decide +kernel
theorem dX4_copyFrom_59 : decode cX4_copyFrom 59 = .ok (.invokevirtual 92, 3) := by decide +kernel
theorem dX4_copyFrom_62 : decode cX4_copyFrom 62 = .ok (.aload_n 0, 1) := by decide +kernel
theorem dX4_copyFrom_63 : decode cX4_copyFrom 63 = .ok (.getfield 39, 3) := by decide +kernel
theorem dX4_copyFrom_66 : decode cX4_copyFrom 66 = .ok (.aload_n 1, 1) := by decide +kernel
theorem dX4_copyFrom_67 : decode cX4_copyFrom 67 = .ok (.getfield 39, 3) := by decide +kernel
theorem dX4_copyFrom_70 : decode cX4_copyFrom 70 = .ok (.invokevirtual 92, 3) := by decide +kernel
theorem dX4_copyFrom_73 : decode cX4_copyFrom 73 = .ok (.aload_n 0, 1) := by decide +kernel
theorem dX4_copyFrom_74 : decode cX4_copyFrom 74 = .ok (.getfield 42, 3) := by decide +kernel
theorem dX4_copyFrom_77 : decode cX4_copyFrom 77 = .ok (.aload_n 1, 1) := by decide +kernel
theorem dX4_copyFrom_78 : decode cX4_copyFrom 78 = .ok (.getfield 42, 3) := by decide +kernel
theorem dX4_copyFrom_81 : decode cX4_copyFrom 81 = .ok (.invokevirtual 92, 3) := by decide +kernel
theorem dX4_copyFrom_84 : decode cX4_copyFrom 84 = .ok (.aload_n 0, 1) := by decide +kernel
theorem dX4_copyFrom_85 : decode cX4_copyFrom 85 = .ok (.getfield 45, 3) := by decide +kernel
theorem dX4_copyFrom_88 : decode cX4_copyFrom 88 = .ok (.aload_n 1, 1) := by decide +kernel
theorem dX4_copyFrom_89 : decode cX4_copyFrom 89 = .ok (.getfield 45, 3) := by decide +kernel
theorem dX4_copyFrom_92 : decode cX4_copyFrom 92 = .ok (.invokevirtual 92, 3) := by decide +kernel
theorem dX4_copyFrom_95 : decode cX4_copyFrom 95 = .ok (.aload_n 0, 1) := by decide +kernel
theorem dX4_copyFrom_96 : decode cX4_copyFrom 96 = .ok (.getfield 48, 3) := by decide +kernel
theorem dX4_copyFrom_99 : decode cX4_copyFrom 99 = .ok (.aload_n 1, 1) := by decide +kernel
theorem dX4_copyFrom_100 : decode cX4_copyFrom 100 = .ok (.getfield 48, 3) := by decide +kernel
theorem dX4_copyFrom_103 : decode cX4_copyFrom 103 = .ok (.invokevirtual 92, 3) := by decide +kernel
theorem dX4_copyFrom_106 : decode cX4_copyFrom 106 = .ok (.aload_n 0, 1) := by decide +kernel
theorem dX4_copyFrom_107 : decode cX4_copyFrom 107 = .ok (.getfield 51, 3) := by decide +kernel
theorem dX4_copyFrom_110 : decode cX4_copyFrom 110 = .ok (.aload_n 1, 1) := by decide +kernel
theorem dX4_copyFrom_111 : decode cX4_copyFrom 111 = .ok (.getfield 51, 3) := by decide +kernel
theorem dX4_copyFrom_114 : decode cX4_copyFrom 114 = .ok (.invokevirtual 92, 3) := by decide +kernel
theorem dX4_copyFrom_117 : decode cX4_copyFrom 117 = .ok (.aload_n 0, 1) := by decide +kernel
theorem dX4_copyFrom_118 : decode cX4_copyFrom 118 = .ok (.getfield 54, 3) := by decide +kernel
theorem dX4_copyFrom_121 : decode cX4_copyFrom 121 = .ok (.aload_n 1, 1) := by decide +kernel
theorem dX4_copyFrom_122 : decode cX4_copyFrom 122 = .ok (.getfield 54, 3) := by decide +kernel
theorem dX4_copyFrom_125 : decode cX4_copyFrom 125 = .ok (.invokevirtual 92, 3) := by decide +kernel
theorem dX4_copyFrom_128 : decode cX4_copyFrom 128 = .ok (.aload_n 0, 1) := by decide +kernel
theorem dX4_copyFrom_129 : decode cX4_copyFrom 129 = .ok (.getfield 57, 3) := by decide +kernel
theorem dX4_copyFrom_132 : decode cX4_copyFrom 132 = .ok (.aload_n 1, 1) := by decide +kernel
theorem dX4_copyFrom_133 : decode cX4_copyFrom 133 = .ok (.getfield 57, 3) := by decide +kernel
theorem dX4_copyFrom_136 : decode cX4_copyFrom 136 = .ok (.invokevirtual 92, 3) := by decide +kernel
theorem dX4_copyFrom_139 : decode cX4_copyFrom 139 = .ok (.return_, 1) := by decide +kernel
theorem dX4_states_0 : decode cX4_states 0 = .ok (.aload_n 0, 1) := by decide +kernel
theorem dX4_states_1 : decode cX4_states 1 = .ok (.getfield 9, 3) := by decide +kernel
theorem dX4_states_4 : decode cX4_states 4 = .ok (.invokestatic 96, 3) := by decide +kernel
theorem dX4_states_7 : decode cX4_states 7 = .ok (.ireturn, 1) := by decide +kernel
theorem dX4_hasDrawer_0 : decode cX4_hasDrawer 0 = .ok (.iload_n 1, 1) := by decide +kernel
theorem dX4_hasDrawer_1 : decode cX4_hasDrawer 1 = .ok (.ifCond .lt 15, 3) := by decide +kernel
theorem dX4_hasDrawer_4 : decode cX4_hasDrawer 4 = .ok (.iload_n 1, 1) := by decide +kernel
theorem dX4_hasDrawer_5 : decode cX4_hasDrawer 5 = .ok (.aload_n 0, 1) := by decide +kernel
theorem dX4_hasDrawer_6 : decode cX4_hasDrawer 6 = .ok (.getfield 9, 3) := by decide +kernel
theorem dX4_hasDrawer_9 : decode cX4_hasDrawer 9 = .ok (.if_icmp .ge 7, 3) := by decide +kernel
theorem dX4_hasDrawer_12 : decode cX4_hasDrawer 12 = .ok (.iconst 1, 1) := by decide +kernel
theorem dX4_hasDrawer_13 : decode cX4_hasDrawer 13 = .ok (.goto 4, 3) := by decide +kernel
theorem dX4_hasDrawer_16 : decode cX4_hasDrawer 16 = .ok (.iconst 0, 1) := by decide +kernel
theorem dX4_hasDrawer_17 : decode cX4_hasDrawer 17 = .ok (.ireturn, 1) := by decide +kernel
theorem dX4_hasState_0 : decode cX4_hasState 0 = .ok (.iload_n 1, 1) := by decide +kernel
theorem dX4_hasState_1 : decode cX4_hasState 1 = .ok (.ifCond .lt 18, 3) := by decide +kernel
theorem dX4_hasState_4 : decode cX4_hasState 4 = .ok (.iload_n 1, 1) := by decide +kernel
theorem dX4_hasState_5 : decode cX4_hasState 5 = .ok (.aload_n 0, 1) := by decide +kernel
theorem dX4_hasState_6 : decode cX4_hasState 6 = .ok (.getfield 9, 3) := by decide +kernel
theorem dX4_hasState_9 : decode cX4_hasState 9 = .ok (.invokestatic 96, 3) := by decide +kernel
theorem dX4_hasState_12 : decode cX4_hasState 12 = .ok (.if_icmp .ge 7, 3) := by decide +kernel
theorem dX4_hasState_15 : decode cX4_hasState 15 = .ok (.iconst 1, 1) := by decide +kernel
theorem dX4_hasState_16 : decode cX4_hasState 16 = .ok (.goto 4, 3) := by decide +kernel
theorem dX4_hasState_19 : decode cX4_hasState 19 = .ok (.iconst 0, 1) := by decide +kernel
theorem dX4_hasState_20 : decode cX4_hasState 20 = .ok (.ireturn, 1) := by decide +kernel
theorem dX4_hasSet_0 : decode cX4_hasSet 0 = .ok (.iload_n 1, 1) := by decide +kernel
theorem dX4_hasSet_1 : decode cX4_hasSet 1 = .ok (.ifCond .lt 17, 3) := by decide +kernel
theorem dX4_hasSet_4 : decode cX4_hasSet 4 = .ok (.iload_n 1, 1) := by decide +kernel
theorem dX4_hasSet_5 : decode cX4_hasSet 5 = .ok (.iconst 1, 1) := by decide +kernel
theorem dX4_hasSet_6 : decode cX4_hasSet 6 = .ok (.aload_n 0, 1) := by decide +kernel
theorem dX4_hasSet_7 : decode cX4_hasSet 7 = .ok (.getfield 9, 3) := by decide +kernel
theorem dX4_hasSet_10 : decode cX4_hasSet 10 = .ok (.ishl, 1) := by decide +kernel
theorem dX4_hasSet_11 : decode cX4_hasSet 11 = .ok (.if_icmp .ge 7, 3) := by decide +kernel
theorem dX4_hasSet_14 : decode cX4_hasSet 14 = .ok (.iconst 1, 1) := by decide +kernel
theorem dX4_hasSet_15 : decode cX4_hasSet 15 = .ok (.goto 4, 3) := by decide +kernel
theorem dX4_hasSet_18 : decode cX4_hasSet 18 = .ok (.iconst 0, 1) := by decide +kernel
theorem dX4_hasSet_19 : decode cX4_hasSet 19 = .ok (.ireturn, 1) := by decide +kernel
theorem dX4_hasCatch_0 : decode cX4_hasCatch 0 = .ok (.aload_n 0, 1) := by decide +kernel
theorem dX4_hasCatch_1 : decode cX4_hasCatch 1 = .ok (.getfield 18, 3) := by decide +kernel
theorem dX4_hasCatch_4 : decode cX4_hasCatch 4 = .ok (.iload_n 1, 1) := by decide +kernel
theorem dX4_hasCatch_5 : decode cX4_hasCatch 5 = .ok (.ishr, 1) := by decide +kernel
theorem dX4_hasCatch_6 : decode cX4_hasCatch 6 = .ok (.iconst 1, 1) := by decide +kernel
theorem dX4_hasCatch_7 : decode cX4_hasCatch 7 = .ok (.iand, 1) := by decide +kernel
theorem dX4_hasCatch_8 : decode cX4_hasCatch 8 = .ok (.iconst 1, 1) := by decide +kernel
theorem dX4_hasCatch_9 : decode cX4_hasCatch 9 = .ok (.if_icmp .ne 7, 3) := by decide +kernel
theorem dX4_hasCatch_12 : decode cX4_hasCatch 12 = .ok (.iconst 1, 1) := by decide +kernel
theorem dX4_hasCatch_13 : decode cX4_hasCatch 13 = .ok (.goto 4, 3) := by decide +kernel
theorem dX4_hasCatch_16 : decode cX4_hasCatch 16 = .ok (.iconst 0, 1) := by decide +kernel
theorem dX4_hasCatch_17 : decode cX4_hasCatch 17 = .ok (.ireturn, 1) := by decide +kernel
theorem dX4_remember_0 : decode cX4_remember 0 = .ok (.aload_n 0, 1) := by decide +kernel
theorem dX4_remember_1 : decode cX4_remember 1 = .ok (.getfield 57, 3) := by decide +kernel
theorem dX4_remember_4 : decode cX4_remember 4 = .ok (.invokevirtual 74, 3) := by decide +kernel
theorem dX4_remember_7 : decode cX4_remember 7 = .ok (.ifCond .eq 10, 3) := by decide +kernel
theorem dX4_remember_10 : decode cX4_remember 10 = .ok (.aload_n 0, 1) := by decide +kernel
theorem dX4_remember_11 : decode cX4_remember 11 = .ok (.getfield 57, 3) := by decide +kernel
theorem dX4_remember_14 : decode cX4_remember 14 = .ok (.invokevirtual 99, 3) := by decide +kernel
theorem dX4_remember_17 : decode cX4_remember 17 = .ok (.aload_n 0, 1) := by decide +kernel
theorem dX4_remember_18 : decode cX4_remember 18 = .ok (.getfield 57, 3) := by decide +kernel
theorem dX4_remember_21 : decode cX4_remember 21 = .ok (.aload_n 0, 1) := by decide +kernel
theorem dX4_remember_22 : decode cX4_remember 22 = .ok (.getfield 15, 3) := by decide +kernel
theorem dX4_remember_25 : decode cX4_remember 25 = .ok (.invokevirtual 67, 3) := by decide +kernel
theorem dX4_remember_28 : decode cX4_remember 28 = .ok (.return_, 1) := by decide +kernel
theorem dX4_after_0 : decode cX4_after 0 = .ok (.aload_n 0, 1) := by decide +kernel
theorem dX4_after_1 : decode cX4_after 1 = .ok (.iload_n 2, 1) := by decide +kernel
theorem dX4_after_2 : decode cX4_after 2 = .ok (.invokevirtual 82, 3) := by decide +kernel
theorem dX4_after_5 : decode cX4_after 5 = .ok (.ifCond .eq 13, 3) := by decide +kernel
theorem dX4_after_8 : decode cX4_after 8 = .ok (.iload_n 1, 1) := by decide +kernel
theorem dX4_after_9 : decode cX4_after 9 = .ok (.iload_n 2, 1) := by decide +kernel
theorem dX4_after_10 : decode cX4_after 10 = .ok (.invokestatic 102, 3) := by decide +kernel
theorem dX4_after_13 : decode cX4_after 13 = .ok (.ifCond .eq 5, 3) := by decide +kernel
theorem dX4_after_16 : decode cX4_after 16 = .ok (.iload_n 1, 1) := by decide +kernel
theorem dX4_after_17 : decode cX4_after 17 = .ok (.ireturn, 1) := by decide +kernel
theorem dX4_after_18 : decode cX4_after 18 = .ok (.iload_n 1, 1) := by decide +kernel
theorem dX4_after_19 : decode cX4_after 19 = .ok (.iload_n 2, 1) := by decide +kernel
theorem dX4_after_20 : decode cX4_after 20 = .ok (.invokestatic 106, 3) := by decide +kernel
theorem dX4_after_23 : decode cX4_after 23 = .ok (.iconst 2, 1) := by decide +kernel
theorem dX4_after_24 : decode cX4_after 24 = .ok (.if_icmp .eq 7, 3) := by decide +kernel
theorem dX4_after_27 : decode cX4_after 27 = .ok (.iconst 1, 1) := by decide +kernel
theorem dX4_after_28 : decode cX4_after 28 = .ok (.goto 4, 3) := by decide +kernel
theorem dX4_after_31 : decode cX4_after 31 = .ok (.iconst 0, 1) := by decide +kernel
theorem dX4_after_32 : decode cX4_after 32 = .ok (.istore 4, 2) := by decide +kernel
theorem dX4_after_34 : decode cX4_after 34 = .ok (.iload_n 1, 1) := by decide +kernel
theorem dX4_after_35 : decode cX4_after 35 = .ok (.iload_n 2, 1) := by decide +kernel
theorem dX4_after_36 : decode cX4_after 36 = .ok (.iload 4, 2) := by decide +kernel
theorem dX4_after_38 : decode cX4_after 38 = .ok (.ifCond .eq 7, 3) := by decide +kernel
theorem dX4_after_41 : decode cX4_after 41 = .ok (.iconst 1, 1) := by decide +kernel
theorem dX4_after_42 : decode cX4_after 42 = .ok (.goto 5, 3) := by decide +kernel
theorem dX4_after_45 : decode cX4_after 45 = .ok (.bipush (-2), 2) := by decide +kernel
theorem dX4_after_47 : decode cX4_after 47 = .ok (.invokestatic 110, 3) := by decide +kernel
theorem dX4_after_50 : decode cX4_after 50 = .ok (.istore 5, 2) := by decide +kernel
theorem dX4_after_52 : decode cX4_after 52 = .ok (.iconst 0, 1) := by decide +kernel
theorem dX4_after_53 : decode cX4_after 53 = .ok (.istore 6, 2) := by decide +kernel
theorem dX4_after_55 : decode cX4_after 55 = .ok (.iload 6, 2) := by decide +kernel
theorem dX4_after_57 : decode cX4_after 57 = .ok (.aload_n 0, 1) := by decide +kernel
theorem dX4_after_58 : decode cX4_after 58 = .ok (.getfield 36, 3) := by decide +kernel
theorem dX4_after_61 : decode cX4_after 61 = .ok (.invokevirtual 78, 3) := by decide +kernel
theorem dX4_after_64 : decode cX4_after 64 = .ok (.if_icmp .ge 70, 3) := by decide +kernel
theorem dX4_after_67 : decode cX4_after 67 = .ok (.iload_n 3, 1) := by decide +kernel
theorem dX4_after_68 : decode cX4_after 68 = .ok (.iload 6, 2) := by decide +kernel
theorem dX4_after_70 : decode cX4_after 70 = .ok (.ishr, 1) := by decide +kernel
theorem dX4_after_71 : decode cX4_after 71 = .ok (.iconst 1, 1) := by decide +kernel
theorem dX4_after_72 : decode cX4_after 72 = .ok (.iand, 1) := by decide +kernel
theorem dX4_after_73 : decode cX4_after 73 = .ok (.iconst 1, 1) := by decide +kernel
theorem dX4_after_74 : decode cX4_after 74 = .ok (.if_icmp .ne 20, 3) := by decide +kernel
theorem dX4_after_77 : decode cX4_after 77 = .ok (.aload_n 0, 1) := by decide +kernel
theorem dX4_after_78 : decode cX4_after 78 = .ok (.getfield 36, 3) := by decide +kernel
theorem dX4_after_81 : decode cX4_after 81 = .ok (.iload 6, 2) := by decide +kernel
theorem dX4_after_83 : decode cX4_after 83 = .ok (.invokevirtual 85, 3) := by decide +kernel
theorem dX4_after_86 : decode cX4_after 86 = .ok (.iload_n 2, 1) := by decide +kernel
theorem dX4_after_87 : decode cX4_after 87 = .ok (.if_icmp .ne 7, 3) := by decide +kernel
theorem dX4_after_90 : decode cX4_after 90 = .ok (.iconst 1, 1) := by decide +kernel
theorem dX4_after_91 : decode cX4_after 91 = .ok (.goto 4, 3) := by decide +kernel
theorem dX4_after_94 : decode cX4_after 94 = .ok (.iconst 0, 1) := by decide +kernel
theorem dX4_after_95 : decode cX4_after 95 = .ok (.istore 7, 2) := by decide +kernel
theorem dX4_after_97 : decode cX4_after 97 = .ok (.iload 7, 2) := by decide +kernel
theorem dX4_after_99 : decode cX4_after 99 = .ok (.ifCond .eq 29, 3) := by decide +kernel
theorem dX4_after_102 : decode cX4_after 102 = .ok (.iload 5, 2) := by decide +kernel
theorem dX4_after_104 : decode cX4_after 104 = .ok (.aload_n 0, 1) := by decide +kernel
theorem dX4_after_105 : decode cX4_after 105 = .ok (.getfield 39, 3) := by decide +kernel
theorem dX4_after_108 : decode cX4_after 108 = .ok (.iload 6, 2) := by decide +kernel
theorem dX4_after_110 : decode cX4_after 110 = .ok (.invokevirtual 85, 3) := by decide +kernel
theorem dX4_after_113 : decode cX4_after 113 = .ok (.aload_n 0, 1) := by decide +kernel
theorem dX4_after_114 : decode cX4_after 114 = .ok (.iload 6, 2) := by decide +kernel
theorem dX4_after_116 : decode cX4_after 116 = .ok (.iload 5, 2) := by decide +kernel
theorem dX4_after_118 : decode cX4_after 118 = .ok (.iload 4, 2) := by decide +kernel
theorem dX4_after_120 : decode cX4_after 120 = .ok (.invokevirtual 114, 3) := by decide +kernel
theorem dX4_after_123 : decode cX4_after 123 = .ok (.invokestatic 110, 3) := by decide +kernel
theorem dX4_after_126 : decode cX4_after 126 = .ok (.istore 5, 2) := by decide +kernel
theorem dX4_after_128 : decode cX4_after 128 = .ok (.iinc 6 1, 3) := by decide +kernel
theorem dX4_after_131 : decode cX4_after 131 = .ok (.goto (-76), 3) := by decide +kernel
theorem dX4_after_134 : decode cX4_after 134 = .ok (.iload 5, 2) := by decide +kernel
theorem dX4_after_136 : decode cX4_after 136 = .ok (.ireturn, 1) := by decide +kernel
theorem dX4_amount_0 : decode cX4_amount 0 = .ok (.aload_n 0, 1) := by decide +kernel
theorem dX4_amount_1 : decode cX4_amount 1 = .ok (.getfield 45, 3) := by decide +kernel
theorem dX4_amount_4 : decode cX4_amount 4 = .ok (.iload_n 1, 1) := by decide +kernel
theorem dX4_amount_5 : decode cX4_amount 5 = .ok (.invokevirtual 85, 3) := by decide +kernel
theorem dX4_amount_8 : decode cX4_amount 8 = .ok (.istore 4, 2) := by decide +kernel
theorem dX4_amount_10 : decode cX4_amount 10 = .ok (.aload_n 0, 1) := by decide +kernel
theorem dX4_amount_11 : decode cX4_amount 11 = .ok (.getfield 39, 3) := by decide +kernel
theorem dX4_amount_14 : decode cX4_amount 14 = .ok (.iload_n 1, 1) := by decide +kernel
theorem dX4_amount_15 : decode cX4_amount 15 = .ok (.invokevirtual 85, 3) := by decide +kernel
theorem dX4_amount_18 : decode cX4_amount 18 = .ok (.istore 5, 2) := by decide +kernel
theorem dX4_amount_20 : decode cX4_amount 20 = .ok (.iload_n 3, 1) := by decide +kernel
theorem dX4_amount_21 : decode cX4_amount 21 = .ok (.ifCond .eq 8, 3) := by decide +kernel
theorem dX4_amount_24 : decode cX4_amount 24 = .ok (.iload 4, 2) := by decide +kernel
theorem dX4_amount_26 : decode cX4_amount 26 = .ok (.goto 6, 3) := by decide +kernel
theorem dX4_amount_29 : decode cX4_amount 29 = .ok (.iload 4, 2) := by decide +kernel
theorem dX4_amount_31 : decode cX4_amount 31 = .ok (.ineg, 1) := by decide +kernel
theorem dX4_amount_32 : decode cX4_amount 32 = .ok (.istore 6, 2) := by decide +kernel
theorem dX4_amount_34 : decode cX4_amount 34 = .ok (.iload_n 2, 1) := by decide +kernel
theorem dX4_amount_35 : decode cX4_amount 35 = .ok (.iload 5, 2) := by decide +kernel
theorem dX4_amount_37 : decode cX4_amount 37 = .ok (.invokestatic 106, 3) := by decide +kernel
theorem dX4_amount_40 : decode cX4_amount 40 = .ok (.ifCond .ne 8, 3) := by decide +kernel
theorem dX4_amount_43 : decode cX4_amount 43 = .ok (.iload 4, 2) := by decide +kernel
theorem dX4_amount_45 : decode cX4_amount 45 = .ok (.goto 4, 3) := by decide +kernel
theorem dX4_amount_48 : decode cX4_amount 48 = .ok (.iconst 0, 1) := by decide +kernel
theorem dX4_amount_49 : decode cX4_amount 49 = .ok (.istore 7, 2) := by decide +kernel
theorem dX4_amount_51 : decode cX4_amount 51 = .ok (.aload_n 0, 1) := by decide +kernel
theorem dX4_amount_52 : decode cX4_amount 52 = .ok (.getfield 42, 3) := by decide +kernel
theorem dX4_amount_55 : decode cX4_amount 55 = .ok (.iload_n 1, 1) := by decide +kernel
theorem dX4_amount_56 : decode cX4_amount 56 = .ok (.invokevirtual 85, 3) := by decide +kernel
theorem dX4_amount_59 : decode cX4_amount 59 = .ok (.tableswitch 73 1 5 #[33, 36, 39, 55, 62], 33) := by decide +kernel
theorem dX4_amount_92 : decode cX4_amount 92 = .ok (.iload 7, 2) := by decide +kernel
theorem dX4_amount_94 : decode cX4_amount 94 = .ok (.ireturn, 1) := by decide +kernel
theorem dX4_amount_95 : decode cX4_amount 95 = .ok (.iload 6, 2) := by decide +kernel
theorem dX4_amount_97 : decode cX4_amount 97 = .ok (.ireturn, 1) := by decide +kernel
theorem dX4_amount_98 : decode cX4_amount 98 = .ok (.iload_n 2, 1) := by decide +kernel
theorem dX4_amount_99 : decode cX4_amount 99 = .ok (.iload 5, 2) := by decide +kernel
theorem dX4_amount_101 : decode cX4_amount 101 = .ok (.invokestatic 102, 3) := by decide +kernel
theorem dX4_amount_104 : decode cX4_amount 104 = .ok (.ifCond .eq 7, 3) := by decide +kernel
theorem dX4_amount_107 : decode cX4_amount 107 = .ok (.iconst 0, 1) := by decide +kernel
theorem dX4_amount_108 : decode cX4_amount 108 = .ok (.goto 5, 3) := by decide +kernel
theorem dX4_amount_111 : decode cX4_amount 111 = .ok (.iload 4, 2) := by decide +kernel
theorem dX4_amount_113 : decode cX4_amount 113 = .ok (.ireturn, 1) := by decide +kernel
theorem dX4_amount_114 : decode cX4_amount 114 = .ok (.iconst 0, 1) := by decide +kernel
theorem dX4_amount_115 : decode cX4_amount 115 = .ok (.iload 6, 2) := by decide +kernel
theorem dX4_amount_117 : decode cX4_amount 117 = .ok (.invokestatic 118, 3) := by decide +kernel
theorem dX4_amount_120 : decode cX4_amount 120 = .ok (.ireturn, 1) := by decide +kernel
theorem dX4_amount_121 : decode cX4_amount 121 = .ok (.iconst (-1), 1) := by decide +kernel
theorem dX4_amount_122 : decode cX4_amount 122 = .ok (.iconst 1, 1) := by decide +kernel
theorem dX4_amount_123 : decode cX4_amount 123 = .ok (.iload 7, 2) := by decide +kernel
theorem dX4_amount_125 : decode cX4_amount 125 = .ok (.invokestatic 123, 3) := by decide +kernel
theorem dX4_amount_128 : decode cX4_amount 128 = .ok (.invokestatic 118, 3) := by decide +kernel
theorem dX4_amount_131 : decode cX4_amount 131 = .ok (.ireturn, 1) := by decide +kernel
theorem dX4_amount_132 : decode cX4_amount 132 = .ok (.iload 4, 2) := by decide +kernel
theorem dX4_amount_134 : decode cX4_amount 134 = .ok (.ireturn, 1) := by decide +kernel
theorem dX4_drawersWith_0 : decode cX4_drawersWith 0 = .ok (.iconst 0, 1) := by decide +kernel
theorem dX4_drawersWith_1 : decode cX4_drawersWith 1 = .ok (.istore_n 2, 1) := by decide +kernel
theorem dX4_drawersWith_2 : decode cX4_drawersWith 2 = .ok (.iconst 0, 1) := by decide +kernel
theorem dX4_drawersWith_3 : decode cX4_drawersWith 3 = .ok (.istore_n 3, 1) := by decide +kernel
theorem dX4_drawersWith_4 : decode cX4_drawersWith 4 = .ok (.iload_n 3, 1) := by decide +kernel
theorem dX4_drawersWith_5 : decode cX4_drawersWith 5 = .ok (.aload_n 0, 1) := by decide +kernel
theorem dX4_drawersWith_6 : decode cX4_drawersWith 6 = .ok (.getfield 9, 3) := by decide +kernel
theorem dX4_drawersWith_9 : decode cX4_drawersWith 9 = .ok (.if_icmp .ge 31, 3) := by decide +kernel
theorem dX4_drawersWith_12 : decode cX4_drawersWith 12 = .ok (.iload_n 1, 1) := by decide +kernel
theorem dX4_drawersWith_13 : decode cX4_drawersWith 13 = .ok (.aload_n 0, 1) := by decide +kernel
theorem dX4_drawersWith_14 : decode cX4_drawersWith 14 = .ok (.getfield 32, 3) := by decide +kernel
theorem dX4_drawersWith_17 : decode cX4_drawersWith 17 = .ok (.iload_n 3, 1) := by decide +kernel
theorem dX4_drawersWith_18 : decode cX4_drawersWith 18 = .ok (.invokevirtual 85, 3) := by decide +kernel
theorem dX4_drawersWith_21 : decode cX4_drawersWith 21 = .ok (.ishr, 1) := by decide +kernel
theorem dX4_drawersWith_22 : decode cX4_drawersWith 22 = .ok (.iconst 1, 1) := by decide +kernel
theorem dX4_drawersWith_23 : decode cX4_drawersWith 23 = .ok (.iand, 1) := by decide +kernel
theorem dX4_drawersWith_24 : decode cX4_drawersWith 24 = .ok (.iconst 1, 1) := by decide +kernel
theorem dX4_drawersWith_25 : decode cX4_drawersWith 25 = .ok (.if_icmp .ne 9, 3) := by decide +kernel
theorem dX4_drawersWith_28 : decode cX4_drawersWith 28 = .ok (.iload_n 2, 1) := by decide +kernel
theorem dX4_drawersWith_29 : decode cX4_drawersWith 29 = .ok (.iconst 1, 1) := by decide +kernel
theorem dX4_drawersWith_30 : decode cX4_drawersWith 30 = .ok (.iload_n 3, 1) := by decide +kernel
theorem dX4_drawersWith_31 : decode cX4_drawersWith 31 = .ok (.ishl, 1) := by decide +kernel
theorem dX4_drawersWith_32 : decode cX4_drawersWith 32 = .ok (.ior, 1) := by decide +kernel
theorem dX4_drawersWith_33 : decode cX4_drawersWith 33 = .ok (.istore_n 2, 1) := by decide +kernel
theorem dX4_drawersWith_34 : decode cX4_drawersWith 34 = .ok (.iinc 3 1, 3) := by decide +kernel
theorem dX4_drawersWith_37 : decode cX4_drawersWith 37 = .ok (.goto (-33), 3) := by decide +kernel
theorem dX4_drawersWith_40 : decode cX4_drawersWith 40 = .ok (.iload_n 2, 1) := by decide +kernel
theorem dX4_drawersWith_41 : decode cX4_drawersWith 41 = .ok (.ireturn, 1) := by decide +kernel
theorem dX4_isDanger_0 : decode cX4_isDanger 0 = .ok (.aload_n 0, 1) := by decide +kernel
theorem dX4_isDanger_1 : decode cX4_isDanger 1 = .ok (.aload_n 0, 1) := by decide +kernel
theorem dX4_isDanger_2 : decode cX4_isDanger 2 = .ok (.getfield 21, 3) := by decide +kernel
theorem dX4_isDanger_5 : decode cX4_isDanger 5 = .ok (.invokevirtual 126, 3) := by decide +kernel
theorem dX4_isDanger_8 : decode cX4_isDanger 8 = .ok (.iload_n 1, 1) := by decide +kernel
theorem dX4_isDanger_9 : decode cX4_isDanger 9 = .ok (.iconst 2, 1) := by decide +kernel
theorem dX4_isDanger_10 : decode cX4_isDanger 10 = .ok (.invokestatic 129, 3) := by decide +kernel
theorem dX4_isDanger_13 : decode cX4_isDanger 13 = .ok (.iand, 1) := by decide +kernel
theorem dX4_isDanger_14 : decode cX4_isDanger 14 = .ok (.istore_n 2, 1) := by decide +kernel
theorem dX4_isDanger_15 : decode cX4_isDanger 15 = .ok (.aload_n 0, 1) := by decide +kernel
theorem dX4_isDanger_16 : decode cX4_isDanger 16 = .ok (.aload_n 0, 1) := by decide +kernel
theorem dX4_isDanger_17 : decode cX4_isDanger 17 = .ok (.getfield 24, 3) := by decide +kernel
theorem dX4_isDanger_20 : decode cX4_isDanger 20 = .ok (.invokevirtual 126, 3) := by decide +kernel
theorem dX4_isDanger_23 : decode cX4_isDanger 23 = .ok (.iload_n 1, 1) := by decide +kernel
theorem dX4_isDanger_24 : decode cX4_isDanger 24 = .ok (.iconst 0, 1) := by decide +kernel
theorem dX4_isDanger_25 : decode cX4_isDanger 25 = .ok (.invokestatic 129, 3) := by decide +kernel
theorem dX4_isDanger_28 : decode cX4_isDanger 28 = .ok (.iconst (-1), 1) := by decide +kernel
theorem dX4_isDanger_29 : decode cX4_isDanger 29 = .ok (.ixor, 1) := by decide +kernel
theorem dX4_isDanger_30 : decode cX4_isDanger 30 = .ok (.iand, 1) := by decide +kernel
theorem dX4_isDanger_31 : decode cX4_isDanger 31 = .ok (.istore_n 3, 1) := by decide +kernel
theorem dX4_isDanger_32 : decode cX4_isDanger 32 = .ok (.iload_n 2, 1) := by decide +kernel
theorem dX4_isDanger_33 : decode cX4_isDanger 33 = .ok (.invokestatic 132, 3) := by decide +kernel
theorem dX4_isDanger_36 : decode cX4_isDanger 36 = .ok (.iload_n 3, 1) := by decide +kernel
theorem dX4_isDanger_37 : decode cX4_isDanger 37 = .ok (.iand, 1) := by decide +kernel
theorem dX4_isDanger_38 : decode cX4_isDanger 38 = .ok (.ifCond .eq 7, 3) := by decide +kernel
theorem dX4_isDanger_41 : decode cX4_isDanger 41 = .ok (.iconst 1, 1) := by decide +kernel
theorem dX4_isDanger_42 : decode cX4_isDanger 42 = .ok (.goto 4, 3) := by decide +kernel
theorem dX4_isDanger_45 : decode cX4_isDanger 45 = .ok (.iconst 0, 1) := by decide +kernel
theorem dX4_isDanger_46 : decode cX4_isDanger 46 = .ok (.ireturn, 1) := by decide +kernel
theorem dX4_isSeenBy_0 : decode cX4_isSeenBy 0 = .ok (.iconst 0, 1) := by decide +kernel
theorem dX4_isSeenBy_1 : decode cX4_isSeenBy 1 = .ok (.istore_n 2, 1) := by decide +kernel
theorem dX4_isSeenBy_2 : decode cX4_isSeenBy 2 = .ok (.iconst 0, 1) := by decide +kernel
theorem dX4_isSeenBy_3 : decode cX4_isSeenBy 3 = .ok (.istore_n 3, 1) := by decide +kernel
theorem dX4_isSeenBy_4 : decode cX4_isSeenBy 4 = .ok (.iload_n 3, 1) := by decide +kernel
theorem dX4_isSeenBy_5 : decode cX4_isSeenBy 5 = .ok (.aload_n 0, 1) := by decide +kernel
theorem dX4_isSeenBy_6 : decode cX4_isSeenBy 6 = .ok (.getfield 51, 3) := by decide +kernel
theorem dX4_isSeenBy_9 : decode cX4_isSeenBy 9 = .ok (.invokevirtual 78, 3) := by decide +kernel
theorem dX4_isSeenBy_12 : decode cX4_isSeenBy 12 = .ok (.if_icmp .ge 45, 3) := by decide +kernel
theorem dX4_isSeenBy_15 : decode cX4_isSeenBy 15 = .ok (.aload_n 0, 1) := by decide +kernel
theorem dX4_isSeenBy_16 : decode cX4_isSeenBy 16 = .ok (.iload_n 2, 1) := by decide +kernel
theorem dX4_isSeenBy_17 : decode cX4_isSeenBy 17 = .ok (.aload_n 0, 1) := by decide +kernel
theorem dX4_isSeenBy_18 : decode cX4_isSeenBy 18 = .ok (.getfield 51, 3) := by decide +kernel
theorem dX4_isSeenBy_21 : decode cX4_isSeenBy 21 = .ok (.iload_n 3, 1) := by decide +kernel
theorem dX4_isSeenBy_22 : decode cX4_isSeenBy 22 = .ok (.invokevirtual 85, 3) := by decide +kernel
theorem dX4_isSeenBy_25 : decode cX4_isSeenBy 25 = .ok (.iload_n 1, 1) := by decide +kernel
theorem dX4_isSeenBy_26 : decode cX4_isSeenBy 26 = .ok (.invokevirtual 135, 3) := by decide +kernel
theorem dX4_isSeenBy_29 : decode cX4_isSeenBy 29 = .ok (.aload_n 0, 1) := by decide +kernel
theorem dX4_isSeenBy_30 : decode cX4_isSeenBy 30 = .ok (.getfield 54, 3) := by decide +kernel
theorem dX4_isSeenBy_33 : decode cX4_isSeenBy 33 = .ok (.iload_n 3, 1) := by decide +kernel
theorem dX4_isSeenBy_34 : decode cX4_isSeenBy 34 = .ok (.invokevirtual 85, 3) := by decide +kernel
theorem dX4_isSeenBy_37 : decode cX4_isSeenBy 37 = .ok (.if_icmp .eq 5, 3) := by decide +kernel
theorem dX4_isSeenBy_40 : decode cX4_isSeenBy 40 = .ok (.iconst 0, 1) := by decide +kernel
theorem dX4_isSeenBy_41 : decode cX4_isSeenBy 41 = .ok (.ireturn, 1) := by decide +kernel
theorem dX4_isSeenBy_42 : decode cX4_isSeenBy 42 = .ok (.aload_n 0, 1) := by decide +kernel
theorem dX4_isSeenBy_43 : decode cX4_isSeenBy 43 = .ok (.getfield 54, 3) := by decide +kernel
theorem dX4_isSeenBy_46 : decode cX4_isSeenBy 46 = .ok (.iload_n 3, 1) := by decide +kernel
theorem dX4_isSeenBy_47 : decode cX4_isSeenBy 47 = .ok (.invokevirtual 85, 3) := by decide +kernel
theorem dX4_isSeenBy_50 : decode cX4_isSeenBy 50 = .ok (.istore_n 2, 1) := by decide +kernel
theorem dX4_isSeenBy_51 : decode cX4_isSeenBy 51 = .ok (.iinc 3 1, 3) := by decide +kernel
theorem dX4_isSeenBy_54 : decode cX4_isSeenBy 54 = .ok (.goto (-50), 3) := by decide +kernel
theorem dX4_isSeenBy_57 : decode cX4_isSeenBy 57 = .ok (.iconst 1, 1) := by decide +kernel
theorem dX4_isSeenBy_58 : decode cX4_isSeenBy 58 = .ok (.ireturn, 1) := by decide +kernel
end
section
theorem dX5_init_0 : decode cX5_init 0 = .ok (.aload_n 0, 1) := by decide +kernel
theorem dX5_init_1 : decode cX5_init 1 = .ok (.invokespecial 1, 3) := by decide +kernel
theorem dX5_init_4 : decode cX5_init 4 = .ok (.aload_n 0, 1) := by decide +kernel
theorem dX5_init_5 : decode cX5_init 5 = .ok (.new 7, 3) := by decide +kernel
theorem dX5_init_8 : decode cX5_init 8 = .ok (.dup, 1) := by decide +kernel
theorem dX5_init_9 : decode cX5_init 9 = .ok (.invokespecial 9, 3) := by decide +kernel
theorem dX5_init_12 : decode cX5_init 12 = .ok (.putfield 10, 3) := by decide +kernel
theorem dX5_init_15 : decode cX5_init 15 = .ok (.aload_n 0, 1) := by decide +kernel
theorem dX5_init_16 : decode cX5_init 16 = .ok (.new 7, 3) := by decide +kernel
theorem dX5_init_19 : decode cX5_init 19 = .ok (.dup, 1) := by decide +kernel
theorem dX5_init_20 : decode cX5_init 20 = .ok (.invokespecial 9, 3) := by decide +kernel
theorem dX5_init_23 : decode cX5_init 23 = .ok (.putfield 16, 3) := by decide +kernel
theorem dX5_init_26 : decode cX5_init 26 = .ok (.aload_n 0, 1) := by decide +kernel
theorem dX5_init_27 : decode cX5_init 27 = .ok (.new 7, 3) := by decide +kernel
theorem dX5_init_30 : decode cX5_init 30 = .ok (.dup, 1) := by decide +kernel
theorem dX5_init_31 : decode cX5_init 31 = .ok (.invokespecial 9, 3) := by decide +kernel
theorem dX5_init_34 : decode cX5_init 34 = .ok (.putfield 19, 3) := by decide +kernel
theorem dX5_init_37 : decode cX5_init 37 = .ok (.aload_n 0, 1) := by decide +kernel
theorem dX5_init_38 : decode cX5_init 38 = .ok (.new 7, 3) := by decide +kernel
theorem dX5_init_41 : decode cX5_init 41 = .ok (.dup, 1) := by decide +kernel
theorem dX5_init_42 : decode cX5_init 42 = .ok (.invokespecial 9, 3) := by decide +kernel
theorem dX5_init_45 : decode cX5_init 45 = .ok (.putfield 22, 3) := by decide +kernel
theorem dX5_init_48 : decode cX5_init 48 = .ok (.aload_n 0, 1) := by decide +kernel
theorem dX5_init_49 : decode cX5_init 49 = .ok (.iconst 0, 1) := by decide +kernel
theorem dX5_init_50 : decode cX5_init 50 = .ok (.putfield 25, 3) := by decide +kernel
theorem dX5_init_53 : decode cX5_init 53 = .ok (.aload_n 0, 1) := by decide +kernel
theorem dX5_init_54 : decode cX5_init 54 = .ok (.iconst 0, 1) := by decide +kernel
theorem dX5_init_55 : decode cX5_init 55 = .ok (.putfield 29, 3) := by decide +kernel
theorem dX5_init_58 : decode cX5_init 58 = .ok (.aload_n 0, 1) := by decide +kernel
theorem dX5_init_59 : decode cX5_init 59 = .ok (.new 32, 3) := by decide +kernel
theorem dX5_init_62 : decode cX5_init 62 = .ok (.dup, 1) := by decide +kernel
theorem dX5_init_63 : decode cX5_init 63 = .ok (.sipush 200, 3) := by decide +kernel
theorem dX5_init_66 : decode cX5_init 66 = .ok (.invokespecial 34, 3) := by decide +kernel
theorem dX5_init_69 : decode cX5_init 69 = .ok (.putfield 37, 3) := by decide +kernel
theorem dX5_init_72 : decode cX5_init 72 = .ok (.aload_n 0, 1) := by decide +kernel
theorem dX5_init_73 : decode cX5_init 73 = .ok (.new 41, 3) := by decide +kernel
theorem dX5_init_76 : decode cX5_init 76 = .ok (.dup, 1) := by decide +kernel
theorem dX5_init_77 : decode cX5_init 77 = .ok (.invokespecial 43, 3) := by decide +kernel
theorem dX5_init_80 : decode cX5_init 80 = .ok (.putfield 44, 3) := by decide +kernel
theorem dX5_init_83 : decode cX5_init 83 = .ok (.aload_n 0, 1) := by decide +kernel
theorem dX5_init_84 : decode cX5_init 84 = .ok (.new 48, 3) := by decide +kernel
theorem dX5_init_87 : decode cX5_init 87 = .ok (.dup, 1) := by decide +kernel
theorem dX5_init_88 : decode cX5_init 88 = .ok (.invokespecial 50, 3) := by decide +kernel
theorem dX5_init_91 : decode cX5_init 91 = .ok (.putfield 51, 3) := by decide +kernel
theorem dX5_init_94 : decode cX5_init 94 = .ok (.aload_n 0, 1) := by decide +kernel
theorem dX5_init_95 : decode cX5_init 95 = .ok (.new 55, 3) := by decide +kernel
theorem dX5_init_98 : decode cX5_init 98 = .ok (.dup, 1) := by decide +kernel
theorem dX5_init_99 : decode cX5_init 99 = .ok (.invokespecial 57, 3) := by decide +kernel
theorem dX5_init_102 : decode cX5_init 102 = .ok (.putfield 58, 3) := by decide +kernel
theorem dX5_init_105 : decode cX5_init 105 = .ok (.aload_n 0, 1) := by decide +kernel
theorem dX5_init_106 : decode cX5_init 106 = .ok (.new 55, 3) := by decide +kernel
theorem dX5_init_109 : decode cX5_init 109 = .ok (.dup, 1) := by decide +kernel
theorem dX5_init_110 : decode cX5_init 110 = .ok (.invokespecial 57, 3) := by decide +kernel
theorem dX5_init_113 : decode cX5_init 113 = .ok (.putfield 62, 3) := by decide +kernel
theorem dX5_init_116 : decode cX5_init 116 = .ok (.aload_n 0, 1) := by decide +kernel
theorem dX5_init_117 : decode cX5_init 117 = .ok (.new 32, 3) := by decide +kernel
theorem dX5_init_120 : decode cX5_init 120 = .ok (.dup, 1) := by decide +kernel
theorem dX5_init_121 : decode cX5_init 121 = .ok (.bipush 7, 2) := by decide +kernel
theorem dX5_init_123 : decode cX5_init 123 = .ok (.invokespecial 34, 3) := by decide +kernel
theorem dX5_init_126 : decode cX5_init 126 = .ok (.putfield 65, 3) := by decide +kernel
theorem dX5_init_129 : decode cX5_init 129 = .ok (.aload_n 0, 1) := by decide +kernel
theorem dX5_init_130 : decode cX5_init 130 = .ok (.iconst 0, 1) := by decide +kernel
theorem dX5_init_131 : decode cX5_init 131 = .ok (.putfield 68, 3) := by decide +kernel
theorem dX5_init_134 : decode cX5_init 134 = .ok (.aload_n 0, 1) := by decide +kernel
theorem dX5_init_135 : decode cX5_init 135 = .ok (.iconst 0, 1) := by decide +kernel
theorem dX5_init_136 : decode cX5_init 136 = .ok (.putfield 72, 3) := by decide +kernel
theorem dX5_init_139 : decode cX5_init 139 = .ok (.aload_n 0, 1) := by decide +kernel
theorem dX5_init_140 : decode cX5_init 140 = .ok (.iconst 0, 1) := by decide +kernel
theorem dX5_init_141 : decode cX5_init 141 = .ok (.putfield 75, 3) := by decide +kernel
theorem dX5_init_144 : decode cX5_init 144 = .ok (.return_, 1) := by decide +kernel
theorem dX5_wall_0 : decode cX5_wall 0 = .ok (.aload_n 0, 1) := by decide +kernel
theorem dX5_wall_1 : decode cX5_wall 1 = .ok (.getfield 51, 3) := by decide +kernel
theorem dX5_wall_4 : decode cX5_wall 4 = .ok (.invokevirtual 78, 3) := by decide +kernel
theorem dX5_wall_7 : decode cX5_wall 7 = .ok (.aload_n 0, 1) := by decide +kernel
theorem dX5_wall_8 : decode cX5_wall 8 = .ok (.aload_n 0, 1) := by decide +kernel
theorem dX5_wall_9 : decode cX5_wall 9 = .ok (.getfield 10, 3) := by decide +kernel
theorem dX5_wall_12 : decode cX5_wall 12 = .ok (.iload_n 1, 1) := by decide +kernel
theorem dX5_wall_13 : decode cX5_wall 13 = .ok (.invokevirtual 81, 3) := by decide +kernel
theorem dX5_wall_16 : decode cX5_wall 16 = .ok (.invokevirtual 85, 3) := by decide +kernel
theorem dX5_wall_19 : decode cX5_wall 19 = .ok (.ireturn, 1) := by decide +kernel
theorem dX5_cord_0 : decode cX5_cord 0 = .ok (.aload_n 0, 1) := by decide +kernel
theorem dX5_cord_1 : decode cX5_cord 1 = .ok (.getfield 51, 3) := by decide +kernel
theorem dX5_cord_4 : decode cX5_cord 4 = .ok (.invokevirtual 78, 3) := by decide +kernel
theorem dX5_cord_7 : decode cX5_cord 7 = .ok (.aload_n 0, 1) := by decide +kernel
theorem dX5_cord_8 : decode cX5_cord 8 = .ok (.aload_n 0, 1) := by decide +kernel
theorem dX5_cord_9 : decode cX5_cord 9 = .ok (.getfield 10, 3) := by decide +kernel
theorem dX5_cord_12 : decode cX5_cord 12 = .ok (.iload_n 1, 1) := by decide +kernel
theorem dX5_cord_13 : decode cX5_cord 13 = .ok (.iload_n 2, 1) := by decide +kernel
theorem dX5_cord_14 : decode cX5_cord 14 = .ok (.iload_n 3, 1) := by decide +kernel
theorem dX5_cord_15 : decode cX5_cord 15 = .ok (.iload 4, 2) := by decide +kernel
theorem dX5_cord_17 : decode cX5_cord 17 = .ok (.invokevirtual 88, 3) := by decide +kernel
theorem dX5_cord_20 : decode cX5_cord 20 = .ok (.invokevirtual 85, 3) := by decide +kernel
theorem dX5_cord_23 : decode cX5_cord 23 = .ok (.ireturn, 1) := by decide +kernel
theorem dX5_caught_0 : decode cX5_caught 0 = .ok (.aload_n 0, 1) := by decide +kernel
theorem dX5_caught_1 : decode cX5_caught 1 = .ok (.getfield 51, 3) := by decide +kernel
theorem dX5_caught_4 : decode cX5_caught 4 = .ok (.invokevirtual 78, 3) := by decide +kernel
theorem dX5_caught_7 : decode cX5_caught 7 = .ok (.aload_n 0, 1) := by decide +kernel
theorem dX5_caught_8 : decode cX5_caught 8 = .ok (.aload_n 0, 1) := by decide +kernel
theorem dX5_caught_9 : decode cX5_caught 9 = .ok (.getfield 10, 3) := by decide +kernel
theorem dX5_caught_12 : decode cX5_caught 12 = .ok (.iload_n 1, 1) := by decide +kernel
theorem dX5_caught_13 : decode cX5_caught 13 = .ok (.iload_n 2, 1) := by decide +kernel
theorem dX5_caught_14 : decode cX5_caught 14 = .ok (.invokevirtual 92, 3) := by decide +kernel
theorem dX5_caught_17 : decode cX5_caught 17 = .ok (.invokevirtual 85, 3) := by decide +kernel
theorem dX5_caught_20 : decode cX5_caught 20 = .ok (.ireturn, 1) := by decide +kernel
theorem dX5_good_0 : decode cX5_good 0 = .ok (.aload_n 0, 1) := by decide +kernel
theorem dX5_good_1 : decode cX5_good 1 = .ok (.aload_n 0, 1) := by decide +kernel
theorem dX5_good_2 : decode cX5_good 2 = .ok (.getfield 10, 3) := by decide +kernel
theorem dX5_good_5 : decode cX5_good 5 = .ok (.iload_n 1, 1) := by decide +kernel
theorem dX5_good_6 : decode cX5_good 6 = .ok (.iload_n 2, 1) := by decide +kernel
theorem dX5_good_7 : decode cX5_good 7 = .ok (.invokevirtual 96, 3) := by decide +kernel
theorem dX5_good_10 : decode cX5_good 10 = .ok (.invokevirtual 85, 3) := by decide +kernel
theorem dX5_good_13 : decode cX5_good 13 = .ok (.ireturn, 1) := by decide +kernel
theorem dX5_put_0 : decode cX5_put 0 = .ok (.iload_n 1, 1) := by decide +kernel
theorem dX5_put_1 : decode cX5_put 1 = .ok (.ifCond .lt 19, 3) := by decide +kernel
theorem dX5_put_4 : decode cX5_put 4 = .ok (.iload_n 1, 1) := by decide +kernel
theorem dX5_put_5 : decode cX5_put 5 = .ok (.iconst 1, 1) := by decide +kernel
theorem dX5_put_6 : decode cX5_put 6 = .ok (.if_icmp .gt 14, 3) := by decide +kernel
theorem dX5_put_9 : decode cX5_put 9 = .ok (.iload_n 2, 1) := by decide +kernel
theorem dX5_put_10 : decode cX5_put 10 = .ok (.ifCond .lt 10, 3) := by decide +kernel
theorem dX5_put_13 : decode cX5_put 13 = .ok (.iload_n 2, 1) := by decide +kernel
theorem dX5_put_14 : decode cX5_put 14 = .ok (.sipush 128, 3) := by decide +kernel
theorem dX5_put_17 : decode cX5_put 17 = .ok (.if_icmp .lt 10, 3) := by decide +kernel
theorem dX5_put_20 : decode cX5_put 20 = .ok (.aload_n 0, 1) := by decide +kernel
theorem dX5_put_21 : decode cX5_put 21 = .ok (.bipush (-2), 2) := by decide +kernel
theorem dX5_put_23 : decode cX5_put 23 = .ok (.invokevirtual 85, 3) := by decide +kernel
theorem dX5_put_26 : decode cX5_put 26 = .ok (.ireturn, 1) := by decide +kernel
theorem dX5_put_27 : decode cX5_put 27 = .ok (.iload_n 1, 1) := by decide +kernel
theorem dX5_put_28 : decode cX5_put 28 = .ok (.ifCond .ne 13, 3) := by decide +kernel
theorem dX5_put_31 : decode cX5_put 31 = .ok (.aload_n 0, 1) := by decide +kernel
theorem dX5_put_32 : decode cX5_put 32 = .ok (.getfield 10, 3) := by decide +kernel
theorem dX5_put_35 : decode cX5_put 35 = .ok (.getfield 100, 3) := by decide +kernel
theorem dX5_put_38 : decode cX5_put 38 = .ok (.goto 10, 3) := by decide +kernel
theorem dX5_put_41 : decode cX5_put 41 = .ok (.aload_n 0, 1) := by decide +kernel
theorem dX5_put_42 : decode cX5_put 42 = .ok (.getfield 10, 3) := by decide +kernel
theorem dX5_put_45 : decode cX5_put 45 = .ok (.getfield 103, 3) := by decide +kernel
theorem dX5_put_48 : decode cX5_put 48 = .ok (.istore_n 3, 1) := by decide +kernel
theorem dX5_put_49 : decode cX5_put 49 = .ok (.iload_n 1, 1) := by decide +kernel
theorem dX5_put_50 : decode cX5_put 50 = .ok (.ifCond .ne 14, 3) := by decide +kernel
theorem dX5_put_53 : decode cX5_put 53 = .ok (.aload_n 0, 1) := by decide +kernel
theorem dX5_put_54 : decode cX5_put 54 = .ok (.getfield 10, 3) := by decide +kernel
theorem dX5_put_57 : decode cX5_put 57 = .ok (.iload_n 2, 1) := by decide +kernel
theorem dX5_put_58 : decode cX5_put 58 = .ok (.putfield 100, 3) := by decide +kernel
theorem dX5_put_61 : decode cX5_put 61 = .ok (.goto 11, 3) := by decide +kernel
theorem dX5_put_64 : decode cX5_put 64 = .ok (.aload_n 0, 1) := by decide +kernel
theorem dX5_put_65 : decode cX5_put 65 = .ok (.getfield 10, 3) := by decide +kernel
theorem dX5_put_68 : decode cX5_put 68 = .ok (.iload_n 2, 1) := by decide +kernel
theorem dX5_put_69 : decode cX5_put 69 = .ok (.putfield 103, 3) := by decide +kernel
theorem dX5_put_72 : decode cX5_put 72 = .ok (.iload_n 3, 1) := by decide +kernel
theorem dX5_put_73 : decode cX5_put 73 = .ok (.ireturn, 1) := by decide +kernel
theorem dX5_order_0 : decode cX5_order 0 = .ok (.aload_n 0, 1) := by decide +kernel
theorem dX5_order_1 : decode cX5_order 1 = .ok (.aload_n 0, 1) := by decide +kernel
theorem dX5_order_2 : decode cX5_order 2 = .ok (.getfield 10, 3) := by decide +kernel
theorem dX5_order_5 : decode cX5_order 5 = .ok (.iload_n 1, 1) := by decide +kernel
theorem dX5_order_6 : decode cX5_order 6 = .ok (.invokevirtual 106, 3) := by decide +kernel
theorem dX5_order_9 : decode cX5_order 9 = .ok (.invokevirtual 85, 3) := by decide +kernel
theorem dX5_order_12 : decode cX5_order 12 = .ok (.ireturn, 1) := by decide +kernel
theorem dX5_type_0 : decode cX5_type 0 = .ok (.iload_n 3, 1) := by decide +kernel
theorem dX5_type_1 : decode cX5_type 1 = .ok (.iconst 1, 1) := by decide +kernel
theorem dX5_type_2 : decode cX5_type 2 = .ok (.if_icmp .lt 9, 3) := by decide +kernel
theorem dX5_type_5 : decode cX5_type 5 = .ok (.iload_n 3, 1) := by decide +kernel
theorem dX5_type_6 : decode cX5_type 6 = .ok (.bipush 8, 2) := by decide +kernel
theorem dX5_type_8 : decode cX5_type 8 = .ok (.if_icmp .le 10, 3) := by decide +kernel
theorem dX5_type_11 : decode cX5_type 11 = .ok (.aload_n 0, 1) := by decide +kernel
theorem dX5_type_12 : decode cX5_type 12 = .ok (.bipush (-2), 2) := by decide +kernel
theorem dX5_type_14 : decode cX5_type 14 = .ok (.invokevirtual 85, 3) := by decide +kernel
theorem dX5_type_17 : decode cX5_type 17 = .ok (.ireturn, 1) := by decide +kernel
theorem dX5_type_18 : decode cX5_type 18 = .ok (.aload_n 0, 1) := by decide +kernel
theorem dX5_type_19 : decode cX5_type 19 = .ok (.getfield 37, 3) := by decide +kernel
theorem dX5_type_22 : decode cX5_type 22 = .ok (.invokevirtual 109, 3) := by decide +kernel
theorem dX5_type_25 : decode cX5_type 25 = .ok (.iload_n 3, 1) := by decide +kernel
theorem dX5_type_26 : decode cX5_type 26 = .ok (.iadd, 1) := by decide +kernel
theorem dX5_type_27 : decode cX5_type 27 = .ok (.sipush 200, 3) := by decide +kernel
theorem dX5_type_30 : decode cX5_type 30 = .ok (.if_icmp .le 10, 3) := by decide +kernel
theorem dX5_type_33 : decode cX5_type 33 = .ok (.aload_n 0, 1) := by decide +kernel
theorem dX5_type_34 : decode cX5_type 34 = .ok (.bipush (-4), 2) := by decide +kernel
theorem dX5_type_36 : decode cX5_type 36 = .ok (.invokevirtual 85, 3) := by decide +kernel
theorem dX5_type_39 : decode cX5_type 39 = .ok (.ireturn, 1) := by decide +kernel
theorem dX5_type_40 : decode cX5_type 40 = .ok (.iload_n 3, 1) := by decide +kernel
theorem dX5_type_41 : decode cX5_type 41 = .ok (.iconst 1, 1) := by decide +kernel
theorem dX5_type_42 : decode cX5_type 42 = .ok (.isub, 1) := by decide +kernel
theorem dX5_type_43 : decode cX5_type 43 = .ok (.istore 4, 2) := by decide +kernel
theorem dX5_type_45 : decode cX5_type 45 = .ok (.iload 4, 2) := by decide +kernel
theorem dX5_type_47 : decode cX5_type 47 = .ok (.ifCond .lt 28, 3) := by decide +kernel
theorem dX5_type_50 : decode cX5_type 50 = .ok (.aload_n 0, 1) := by decide +kernel
theorem dX5_type_51 : decode cX5_type 51 = .ok (.getfield 37, 3) := by decide +kernel
theorem dX5_type_54 : decode cX5_type 54 = .ok (.lload_n 1, 1) := by decide +kernel
theorem dX5_type_55 : decode cX5_type 55 = .ok (.bipush 8, 2) := by decide +kernel
theorem dX5_type_57 : decode cX5_type 57 = .ok (.iload 4, 2) := by decide +kernel
theorem dX5_type_59 : decode cX5_type 59 = .ok (.imul, 1) := by decide +kernel
theorem dX5_type_60 : decode cX5_type 60 = .ok (.lushr, 1) := by decide +kernel
theorem dX5_type_61 : decode cX5_type 61 = .ok (.l2i, 1) := by decide +kernel
theorem dX5_type_62 : decode cX5_type 62 = .ok (.sipush 255, 3) := by decide +kernel
theorem dX5_type_65 : decode cX5_type 65 = .ok (.iand, 1) := by decide +kernel
theorem dX5_type_66 : decode cX5_type 66 = .ok (.invokevirtual 113, 3) := by decide +kernel
theorem dX5_type_69 : decode cX5_type 69 = .ok (.iinc 4 (-1), 3) := by decide +kernel
theorem dX5_type_72 : decode cX5_type 72 = .ok (.goto (-27), 3) := by decide +kernel
theorem dX5_type_75 : decode cX5_type 75 = .ok (.aload_n 0, 1) := by decide +kernel
theorem dX5_type_76 : decode cX5_type 76 = .ok (.getfield 37, 3) := by decide +kernel
theorem dX5_type_79 : decode cX5_type 79 = .ok (.invokevirtual 109, 3) := by decide +kernel
theorem dX5_type_82 : decode cX5_type 82 = .ok (.ireturn, 1) := by decide +kernel
theorem dX5_clear_0 : decode cX5_clear 0 = .ok (.aload_n 0, 1) := by decide +kernel
theorem dX5_clear_1 : decode cX5_clear 1 = .ok (.getfield 37, 3) := by decide +kernel
theorem dX5_clear_4 : decode cX5_clear 4 = .ok (.invokevirtual 109, 3) := by decide +kernel
theorem dX5_clear_7 : decode cX5_clear 7 = .ok (.istore_n 1, 1) := by decide +kernel
theorem dX5_clear_8 : decode cX5_clear 8 = .ok (.aload_n 0, 1) := by decide +kernel
theorem dX5_clear_9 : decode cX5_clear 9 = .ok (.getfield 37, 3) := by decide +kernel
theorem dX5_clear_12 : decode cX5_clear 12 = .ok (.invokevirtual 116, 3) := by decide +kernel
theorem dX5_clear_15 : decode cX5_clear 15 = .ok (.iload_n 1, 1) := by decide +kernel
theorem dX5_clear_16 : decode cX5_clear 16 = .ok (.ireturn, 1) := by decide +kernel
theorem dX5_read_0 : decode cX5_read 0 = .ok (.aload_n 0, 1) := by decide +kernel
theorem dX5_read_1 : decode cX5_read 1 = .ok (.getfield 44, 3) := by decide +kernel
theorem dX5_read_4 : decode cX5_read 4 = .ok (.aload_n 0, 1) := by decide +kernel
theorem dX5_read_5 : decode cX5_read 5 = .ok (.getfield 37, 3) := by decide +kernel
theorem dX5_read_8 : decode cX5_read 8 = .ok (.invokevirtual 119, 3) := by decide +kernel
theorem dX5_read_11 : decode cX5_read 11 = .ok (.istore_n 1, 1) := by decide +kernel
theorem dX5_read_12 : decode cX5_read 12 = .ok (.iload_n 1, 1) := by decide +kernel
theorem dX5_read_13 : decode cX5_read 13 = .ok (.iconst (-1), 1) := by decide +kernel
theorem dX5_read_14 : decode cX5_read 14 = .ok (.if_icmp .eq 8, 3) := by decide +kernel
theorem dX5_read_17 : decode cX5_read 17 = .ok (.bipush (-10), 2) := by decide +kernel
theorem dX5_read_19 : decode cX5_read 19 = .ok (.iload_n 1, 1) := by decide +kernel
theorem dX5_read_20 : decode cX5_read 20 = .ok (.isub, 1) := by decide +kernel
theorem dX5_read_21 : decode cX5_read 21 = .ok (.ireturn, 1) := by decide +kernel
theorem dX5_read_22 : decode cX5_read 22 = .ok (.aload_n 0, 1) := by decide +kernel
theorem dX5_read_23 : decode cX5_read 23 = .ok (.getfield 44, 3) := by decide +kernel
theorem dX5_read_26 : decode cX5_read 26 = .ok (.aload_n 0, 1) := by decide +kernel
theorem dX5_read_27 : decode cX5_read 27 = .ok (.getfield 16, 3) := by decide +kernel
theorem dX5_read_30 : decode cX5_read 30 = .ok (.invokevirtual 123, 3) := by decide +kernel
theorem dX5_read_33 : decode cX5_read 33 = .ok (.istore_n 2, 1) := by decide +kernel
theorem dX5_read_34 : decode cX5_read 34 = .ok (.iload_n 2, 1) := by decide +kernel
theorem dX5_read_35 : decode cX5_read 35 = .ok (.iconst (-1), 1) := by decide +kernel
theorem dX5_read_36 : decode cX5_read 36 = .ok (.if_icmp .eq 9, 3) := by decide +kernel
theorem dX5_read_39 : decode cX5_read 39 = .ok (.sipush (-1000), 3) := by decide +kernel
theorem dX5_read_42 : decode cX5_read 42 = .ok (.iload_n 2, 1) := by decide +kernel
theorem dX5_read_43 : decode cX5_read 43 = .ok (.isub, 1) := by decide +kernel
theorem dX5_read_44 : decode cX5_read 44 = .ok (.ireturn, 1) := by decide +kernel
theorem dX5_read_45 : decode cX5_read 45 = .ok (.aload_n 0, 1) := by decide +kernel
theorem dX5_read_46 : decode cX5_read 46 = .ok (.getfield 10, 3) := by decide +kernel
theorem dX5_read_49 : decode cX5_read 49 = .ok (.aload_n 0, 1) := by decide +kernel
theorem dX5_read_50 : decode cX5_read 50 = .ok (.getfield 16, 3) := by decide +kernel
theorem dX5_read_53 : decode cX5_read 53 = .ok (.invokevirtual 127, 3) := by decide +kernel
theorem dX5_read_56 : decode cX5_read 56 = .ok (.aload_n 0, 1) := by decide +kernel
theorem dX5_read_57 : decode cX5_read 57 = .ok (.getfield 51, 3) := by decide +kernel
theorem dX5_read_60 : decode cX5_read 60 = .ok (.invokevirtual 78, 3) := by decide +kernel
theorem dX5_read_63 : decode cX5_read 63 = .ok (.aload_n 0, 1) := by decide +kernel
theorem dX5_read_64 : decode cX5_read 64 = .ok (.getfield 44, 3) := by decide +kernel
theorem dX5_read_67 : decode cX5_read 67 = .ok (.invokevirtual 131, 3) := by decide +kernel
theorem dX5_read_70 : decode cX5_read 70 = .ok (.ireturn, 1) := by decide +kernel
theorem dX5_pull_0 : decode cX5_pull 0 = .ok (.aload_n 0, 1) := by decide +kernel
theorem dX5_pull_1 : decode cX5_pull 1 = .ok (.getfield 10, 3) := by decide +kernel
theorem dX5_pull_4 : decode cX5_pull 4 = .ok (.iload_n 1, 1) := by decide +kernel
theorem dX5_pull_5 : decode cX5_pull 5 = .ok (.invokevirtual 134, 3) := by decide +kernel
theorem dX5_pull_8 : decode cX5_pull 8 = .ok (.ifCond .ne 10, 3) := by decide +kernel
theorem dX5_pull_11 : decode cX5_pull 11 = .ok (.aload_n 0, 1) := by decide +kernel
theorem dX5_pull_12 : decode cX5_pull 12 = .ok (.bipush (-2), 2) := by decide +kernel
theorem dX5_pull_14 : decode cX5_pull 14 = .ok (.invokevirtual 85, 3) := by decide +kernel
theorem dX5_pull_17 : decode cX5_pull 17 = .ok (.ireturn, 1) := by decide +kernel
theorem dX5_pull_18 : decode cX5_pull 18 = .ok (.aload_n 0, 1) := by decide +kernel
theorem dX5_pull_19 : decode cX5_pull 19 = .ok (.getfield 10, 3) := by decide +kernel
theorem dX5_pull_22 : decode cX5_pull 22 = .ok (.invokevirtual 138, 3) := by decide +kernel
theorem dX5_pull_25 : decode cX5_pull 25 = .ok (.aload_n 0, 1) := by decide +kernel
theorem dX5_pull_26 : decode cX5_pull 26 = .ok (.getfield 10, 3) := by decide +kernel
theorem dX5_pull_29 : decode cX5_pull 29 = .ok (.aload_n 0, 1) := by decide +kernel
theorem dX5_pull_30 : decode cX5_pull 30 = .ok (.getfield 10, 3) := by decide +kernel
theorem dX5_pull_33 : decode cX5_pull 33 = .ok (.aload_n 0, 1) := by decide +kernel
theorem dX5_pull_34 : decode cX5_pull 34 = .ok (.getfield 10, 3) := by decide +kernel
theorem dX5_pull_37 : decode cX5_pull 37 = .ok (.getfield 141, 3) := by decide +kernel
theorem dX5_pull_40 : decode cX5_pull 40 = .ok (.iload_n 1, 1) := by decide +kernel
theorem dX5_pull_41 : decode cX5_pull 41 = .ok (.iconst (-1), 1) := by decide +kernel
theorem dX5_pull_42 : decode cX5_pull 42 = .ok (.invokevirtual 144, 3) := by decide +kernel
theorem dX5_pull_45 : decode cX5_pull 45 = .ok (.putfield 141, 3) := by decide +kernel
theorem dX5_pull_48 : decode cX5_pull 48 = .ok (.aload_n 0, 1) := by decide +kernel
theorem dX5_pull_49 : decode cX5_pull 49 = .ok (.getfield 10, 3) := by decide +kernel
theorem dX5_pull_52 : decode cX5_pull 52 = .ok (.getfield 141, 3) := by decide +kernel
theorem dX5_pull_55 : decode cX5_pull 55 = .ok (.ireturn, 1) := by decide +kernel
theorem dX5_undo_0 : decode cX5_undo 0 = .ok (.aload_n 0, 1) := by decide +kernel
theorem dX5_undo_1 : decode cX5_undo 1 = .ok (.getfield 10, 3) := by decide +kernel
theorem dX5_undo_4 : decode cX5_undo 4 = .ok (.getfield 148, 3) := by decide +kernel
theorem dX5_undo_7 : decode cX5_undo 7 = .ok (.invokevirtual 109, 3) := by decide +kernel
theorem dX5_undo_10 : decode cX5_undo 10 = .ok (.ifCond .ne 10, 3) := by decide +kernel
theorem dX5_undo_13 : decode cX5_undo 13 = .ok (.aload_n 0, 1) := by decide +kernel
theorem dX5_undo_14 : decode cX5_undo 14 = .ok (.bipush (-3), 2) := by decide +kernel
theorem dX5_undo_16 : decode cX5_undo 16 = .ok (.invokevirtual 85, 3) := by decide +kernel
theorem dX5_undo_19 : decode cX5_undo 19 = .ok (.ireturn, 1) := by decide +kernel
theorem dX5_undo_20 : decode cX5_undo 20 = .ok (.aload_n 0, 1) := by decide +kernel
theorem dX5_undo_21 : decode cX5_undo 21 = .ok (.getfield 10, 3) := by decide +kernel
theorem dX5_undo_24 : decode cX5_undo 24 = .ok (.aload_n 0, 1) := by decide +kernel
theorem dX5_undo_25 : decode cX5_undo 25 = .ok (.getfield 10, 3) := by decide +kernel
theorem dX5_undo_28 : decode cX5_undo 28 = .ok (.getfield 148, 3) := by decide +kernel
theorem dX5_undo_31 : decode cX5_undo 31 = .ok (.invokevirtual 151, 3) := by decide +kernel
theorem dX5_undo_34 : decode cX5_undo 34 = .ok (.putfield 141, 3) := by decide +kernel
theorem dX5_undo_37 : decode cX5_undo 37 = .ok (.aload_n 0, 1) := by decide +kernel
theorem dX5_undo_38 : decode cX5_undo 38 = .ok (.getfield 10, 3) := by decide +kernel
theorem dX5_undo_41 : decode cX5_undo 41 = .ok (.getfield 141, 3) := by decide +kernel
theorem dX5_undo_44 : decode cX5_undo 44 = .ok (.ireturn, 1) := by decide +kernel
theorem dX5_behind_0 : decode cX5_behind 0 = .ok (.aload_n 0, 1) := by decide +kernel
theorem dX5_behind_1 : decode cX5_behind 1 = .ok (.getfield 10, 3) := by decide +kernel
theorem dX5_behind_4 : decode cX5_behind 4 = .ok (.iload_n 1, 1) := by decide +kernel
theorem dX5_behind_5 : decode cX5_behind 5 = .ok (.invokevirtual 154, 3) := by decide +kernel
theorem dX5_behind_8 : decode cX5_behind 8 = .ok (.ifCond .eq 14, 3) := by decide +kernel
theorem dX5_behind_11 : decode cX5_behind 11 = .ok (.aload_n 0, 1) := by decide +kernel
theorem dX5_behind_12 : decode cX5_behind 12 = .ok (.getfield 10, 3) := by decide +kernel
theorem dX5_behind_15 : decode cX5_behind 15 = .ok (.iload_n 2, 1) := by decide +kernel
theorem dX5_behind_16 : decode cX5_behind 16 = .ok (.invokevirtual 134, 3) := by decide +kernel
theorem dX5_behind_19 : decode cX5_behind 19 = .ok (.ifCond .ne 10, 3) := by decide +kernel
theorem dX5_behind_22 : decode cX5_behind 22 = .ok (.aload_n 0, 1) := by decide +kernel
theorem dX5_behind_23 : decode cX5_behind 23 = .ok (.bipush (-2), 2) := by decide +kernel
theorem dX5_behind_25 : decode cX5_behind 25 = .ok (.invokevirtual 85, 3) := by decide +kernel
theorem dX5_behind_28 : decode cX5_behind 28 = .ok (.ireturn, 1) := by decide +kernel
theorem dX5_behind_29 : decode cX5_behind 29 = .ok (.aload_n 0, 1) := by decide +kernel
theorem dX5_behind_30 : decode cX5_behind 30 = .ok (.getfield 10, 3) := by decide +kernel
theorem dX5_behind_33 : decode cX5_behind 33 = .ok (.iload_n 1, 1) := by decide +kernel
theorem dX5_behind_34 : decode cX5_behind 34 = .ok (.iload_n 2, 1) := by decide +kernel
theorem dX5_behind_35 : decode cX5_behind 35 = .ok (.iconst (-1), 1) := by decide +kernel
theorem dX5_behind_36 : decode cX5_behind 36 = .ok (.invokevirtual 144, 3) := by decide +kernel
theorem dX5_behind_39 : decode cX5_behind 39 = .ok (.ireturn, 1) := by decide +kernel
theorem dX5_out_0 : decode cX5_out 0 = .ok (.aload_n 0, 1) := by decide +kernel
theorem dX5_out_1 : decode cX5_out 1 = .ok (.getfield 10, 3) := by decide +kernel
theorem dX5_out_4 : decode cX5_out 4 = .ok (.iload_n 1, 1) := by decide +kernel
theorem dX5_out_5 : decode cX5_out 5 = .ok (.invokevirtual 134, 3) := by decide +kernel
theorem dX5_out_8 : decode cX5_out 8 = .ok (.ifCond .ne 10, 3) := by decide +kernel
theorem dX5_out_11 : decode cX5_out 11 = .ok (.aload_n 0, 1) := by decide +kernel
theorem dX5_out_12 : decode cX5_out 12 = .ok (.bipush (-2), 2) := by decide +kernel
theorem dX5_out_14 : decode cX5_out 14 = .ok (.invokevirtual 85, 3) := by decide +kernel
theorem dX5_out_17 : decode cX5_out 17 = .ok (.ireturn, 1) := by decide +kernel
theorem dX5_out_18 : decode cX5_out 18 = .ok (.aload_n 0, 1) := by decide +kernel
theorem dX5_out_19 : decode cX5_out 19 = .ok (.getfield 10, 3) := by decide +kernel
theorem dX5_out_22 : decode cX5_out 22 = .ok (.getfield 141, 3) := by decide +kernel
theorem dX5_out_25 : decode cX5_out 25 = .ok (.iload_n 1, 1) := by decide +kernel
theorem dX5_out_26 : decode cX5_out 26 = .ok (.invokestatic 157, 3) := by decide +kernel
theorem dX5_out_29 : decode cX5_out 29 = .ok (.ireturn, 1) := by decide +kernel
theorem dX5_pulls_0 : decode cX5_pulls 0 = .ok (.aload_n 0, 1) := by decide +kernel
theorem dX5_pulls_1 : decode cX5_pulls 1 = .ok (.getfield 51, 3) := by decide +kernel
theorem dX5_pulls_4 : decode cX5_pulls 4 = .ok (.aload_n 0, 1) := by decide +kernel
theorem dX5_pulls_5 : decode cX5_pulls 5 = .ok (.getfield 10, 3) := by decide +kernel
theorem dX5_pulls_8 : decode cX5_pulls 8 = .ok (.invokevirtual 160, 3) := by decide +kernel
theorem dX5_pulls_11 : decode cX5_pulls 11 = .ok (.aload_n 0, 1) := by decide +kernel
theorem dX5_pulls_12 : decode cX5_pulls 12 = .ok (.iload_n 1, 1) := by decide +kernel
theorem dX5_pulls_13 : decode cX5_pulls 13 = .ok (.iload_n 2, 1) := by decide +kernel
theorem dX5_pulls_14 : decode cX5_pulls 14 = .ok (.iload_n 3, 1) := by decide +kernel
theorem dX5_pulls_15 : decode cX5_pulls 15 = .ok (.iconst 0, 1) := by decide +kernel
theorem dX5_pulls_16 : decode cX5_pulls 16 = .ok (.invokevirtual 163, 3) := by decide +kernel
theorem dX5_pulls_19 : decode cX5_pulls 19 = .ok (.ireturn, 1) := by decide +kernel
theorem dX5_safe_0 : decode cX5_safe 0 = .ok (.aload_n 0, 1) := by decide +kernel
theorem dX5_safe_1 : decode cX5_safe 1 = .ok (.getfield 51, 3) := by decide +kernel
theorem dX5_safe_4 : decode cX5_safe 4 = .ok (.aload_n 0, 1) := by decide +kernel
theorem dX5_safe_5 : decode cX5_safe 5 = .ok (.getfield 10, 3) := by decide +kernel
theorem dX5_safe_8 : decode cX5_safe 8 = .ok (.invokevirtual 160, 3) := by decide +kernel
theorem dX5_safe_11 : decode cX5_safe 11 = .ok (.aload_n 0, 1) := by decide +kernel
theorem dX5_safe_12 : decode cX5_safe 12 = .ok (.iload_n 1, 1) := by decide +kernel
theorem dX5_safe_13 : decode cX5_safe 13 = .ok (.iload_n 2, 1) := by decide +kernel
theorem dX5_safe_14 : decode cX5_safe 14 = .ok (.iload_n 3, 1) := by decide +kernel
theorem dX5_safe_15 : decode cX5_safe 15 = .ok (.iconst 1, 1) := by decide +kernel
theorem dX5_safe_16 : decode cX5_safe 16 = .ok (.invokevirtual 163, 3) := by decide +kernel
theorem dX5_safe_19 : decode cX5_safe 19 = .ok (.ireturn, 1) := by decide +kernel
theorem dX5_reach_0 : decode cX5_reach 0 = .ok (.iload_n 1, 1) := by decide +kernel
theorem dX5_reach_1 : decode cX5_reach 1 = .ok (.ifCond .lt 8, 3) := by decide +kernel
theorem dX5_reach_4 : decode cX5_reach 4 = .ok (.iload_n 1, 1) := by decide +kernel
theorem dX5_reach_5 : decode cX5_reach 5 = .ok (.iconst 2, 1) := by decide +kernel
theorem dX5_reach_6 : decode cX5_reach 6 = .ok (.if_icmp .le 10, 3) := by decide +kernel
theorem dX5_reach_9 : decode cX5_reach 9 = .ok (.aload_n 0, 1) := by decide +kernel
theorem dX5_reach_10 : decode cX5_reach 10 = .ok (.bipush (-2), 2) := by decide +kernel
theorem dX5_reach_12 : decode cX5_reach 12 = .ok (.invokevirtual 85, 3) := by decide +kernel
theorem dX5_reach_15 : decode cX5_reach 15 = .ok (.ireturn, 1) := by decide +kernel
theorem dX5_reach_16 : decode cX5_reach 16 = .ok (.aload_n 0, 1) := by decide +kernel
theorem dX5_reach_17 : decode cX5_reach 17 = .ok (.getfield 51, 3) := by decide +kernel
theorem dX5_reach_20 : decode cX5_reach 20 = .ok (.aload_n 0, 1) := by decide +kernel
theorem dX5_reach_21 : decode cX5_reach 21 = .ok (.getfield 10, 3) := by decide +kernel
theorem dX5_reach_24 : decode cX5_reach 24 = .ok (.invokevirtual 160, 3) := by decide +kernel
theorem dX5_reach_27 : decode cX5_reach 27 = .ok (.aload_n 0, 1) := by decide +kernel
theorem dX5_reach_28 : decode cX5_reach 28 = .ok (.invokevirtual 167, 3) := by decide +kernel
theorem dX5_reach_31 : decode cX5_reach 31 = .ok (.istore_n 2, 1) := by decide +kernel
theorem dX5_reach_32 : decode cX5_reach 32 = .ok (.iload_n 1, 1) := by decide +kernel
theorem dX5_reach_33 : decode cX5_reach 33 = .ok (.ifCond .ne 5, 3) := by decide +kernel
theorem dX5_reach_36 : decode cX5_reach 36 = .ok (.iload_n 2, 1) := by decide +kernel
theorem dX5_reach_37 : decode cX5_reach 37 = .ok (.ireturn, 1) := by decide +kernel
theorem dX5_reach_38 : decode cX5_reach 38 = .ok (.iload_n 1, 1) := by decide +kernel
theorem dX5_reach_39 : decode cX5_reach 39 = .ok (.iconst 1, 1) := by decide +kernel
theorem dX5_reach_40 : decode cX5_reach 40 = .ok (.if_icmp .ne 13, 3) := by decide +kernel
theorem dX5_reach_43 : decode cX5_reach 43 = .ok (.aload_n 0, 1) := by decide +kernel
theorem dX5_reach_44 : decode cX5_reach 44 = .ok (.getfield 51, 3) := by decide +kernel
theorem dX5_reach_47 : decode cX5_reach 47 = .ok (.invokevirtual 170, 3) := by decide +kernel
theorem dX5_reach_50 : decode cX5_reach 50 = .ok (.goto 10, 3) := by decide +kernel
theorem dX5_reach_53 : decode cX5_reach 53 = .ok (.aload_n 0, 1) := by decide +kernel
theorem dX5_reach_54 : decode cX5_reach 54 = .ok (.getfield 51, 3) := by decide +kernel
theorem dX5_reach_57 : decode cX5_reach 57 = .ok (.invokevirtual 173, 3) := by decide +kernel
theorem dX5_reach_60 : decode cX5_reach 60 = .ok (.ireturn, 1) := by decide +kernel
theorem dX5_kept_0 : decode cX5_kept 0 = .ok (.aload_n 0, 1) := by decide +kernel
theorem dX5_kept_1 : decode cX5_kept 1 = .ok (.getfield 51, 3) := by decide +kernel
theorem dX5_kept_4 : decode cX5_kept 4 = .ok (.aload_n 0, 1) := by decide +kernel
theorem dX5_kept_5 : decode cX5_kept 5 = .ok (.getfield 10, 3) := by decide +kernel
theorem dX5_kept_8 : decode cX5_kept 8 = .ok (.invokevirtual 160, 3) := by decide +kernel
theorem dX5_kept_11 : decode cX5_kept 11 = .ok (.aload_n 0, 1) := by decide +kernel
theorem dX5_kept_12 : decode cX5_kept 12 = .ok (.invokevirtual 167, 3) := by decide +kernel
theorem dX5_kept_15 : decode cX5_kept 15 = .ok (.pop, 1) := by decide +kernel
theorem dX5_kept_16 : decode cX5_kept 16 = .ok (.aload_n 0, 1) := by decide +kernel
theorem dX5_kept_17 : decode cX5_kept 17 = .ok (.getfield 65, 3) := by decide +kernel
theorem dX5_kept_20 : decode cX5_kept 20 = .ok (.invokevirtual 116, 3) := by decide +kernel
theorem dX5_kept_23 : decode cX5_kept 23 = .ok (.iconst 1, 1) := by decide +kernel
theorem dX5_kept_24 : decode cX5_kept 24 = .ok (.istore_n 1, 1) := by decide +kernel
theorem dX5_kept_25 : decode cX5_kept 25 = .ok (.iload_n 1, 1) := by decide +kernel
theorem dX5_kept_26 : decode cX5_kept 26 = .ok (.aload_n 0, 1) := by decide +kernel
theorem dX5_kept_27 : decode cX5_kept 27 = .ok (.getfield 10, 3) := by decide +kernel
theorem dX5_kept_30 : decode cX5_kept 30 = .ok (.invokevirtual 176, 3) := by decide +kernel
theorem dX5_kept_33 : decode cX5_kept 33 = .ok (.if_icmp .ge 19, 3) := by decide +kernel
theorem dX5_kept_36 : decode cX5_kept 36 = .ok (.aload_n 0, 1) := by decide +kernel
theorem dX5_kept_37 : decode cX5_kept 37 = .ok (.iload_n 1, 1) := by decide +kernel
theorem dX5_kept_38 : decode cX5_kept 38 = .ok (.invokevirtual 179, 3) := by decide +kernel
theorem dX5_kept_41 : decode cX5_kept 41 = .ok (.ifCond .eq 5, 3) := by decide +kernel
theorem dX5_kept_44 : decode cX5_kept 44 = .ok (.iload_n 1, 1) := by decide +kernel
theorem dX5_kept_45 : decode cX5_kept 45 = .ok (.ireturn, 1) := by decide +kernel
theorem dX5_kept_46 : decode cX5_kept 46 = .ok (.iinc 1 1, 3) := by decide +kernel
theorem dX5_kept_49 : decode cX5_kept 49 = .ok (.goto (-24), 3) := by decide +kernel
theorem dX5_kept_52 : decode cX5_kept 52 = .ok (.iconst (-1), 1) := by decide +kernel
theorem dX5_kept_53 : decode cX5_kept 53 = .ok (.ireturn, 1) := by decide +kernel
theorem dX5_cut_0 : decode cX5_cut 0 = .ok (.aload_n 0, 1) := by decide +kernel
theorem dX5_cut_1 : decode cX5_cut 1 = .ok (.getfield 51, 3) := by decide +kernel
theorem dX5_cut_4 : decode cX5_cut 4 = .ok (.aload_n 0, 1) := by decide +kernel
theorem dX5_cut_5 : decode cX5_cut 5 = .ok (.getfield 10, 3) := by decide +kernel
theorem dX5_cut_8 : decode cX5_cut 8 = .ok (.invokevirtual 160, 3) := by decide +kernel
theorem dX5_cut_11 : decode cX5_cut 11 = .ok (.aload_n 0, 1) := by decide +kernel
theorem dX5_cut_12 : decode cX5_cut 12 = .ok (.invokevirtual 167, 3) := by decide +kernel
theorem dX5_cut_15 : decode cX5_cut 15 = .ok (.istore_n 1, 1) := by decide +kernel
theorem dX5_cut_16 : decode cX5_cut 16 = .ok (.iconst (-1), 1) := by decide +kernel
theorem dX5_cut_17 : decode cX5_cut 17 = .ok (.istore_n 2, 1) := by decide +kernel
theorem dX5_cut_18 : decode cX5_cut 18 = .ok (.iconst 0, 1) := by decide +kernel
theorem dX5_cut_19 : decode cX5_cut 19 = .ok (.istore_n 3, 1) := by decide +kernel
theorem dX5_cut_20 : decode cX5_cut 20 = .ok (.iload_n 3, 1) := by decide +kernel
theorem dX5_cut_21 : decode cX5_cut 21 = .ok (.aload_n 0, 1) := by decide +kernel
theorem dX5_cut_22 : decode cX5_cut 22 = .ok (.getfield 10, 3) := by decide +kernel
theorem dX5_cut_25 : decode cX5_cut 25 = .ok (.getfield 182, 3) := by decide +kernel
theorem dX5_cut_28 : decode cX5_cut 28 = .ok (.invokevirtual 109, 3) := by decide +kernel
theorem dX5_cut_31 : decode cX5_cut 31 = .ok (.if_icmp .ge 71, 3) := by decide +kernel
theorem dX5_cut_34 : decode cX5_cut 34 = .ok (.aload_n 0, 1) := by decide +kernel
theorem dX5_cut_35 : decode cX5_cut 35 = .ok (.getfield 10, 3) := by decide +kernel
theorem dX5_cut_38 : decode cX5_cut 38 = .ok (.getfield 182, 3) := by decide +kernel
theorem dX5_cut_41 : decode cX5_cut 41 = .ok (.iload_n 3, 1) := by decide +kernel
theorem dX5_cut_42 : decode cX5_cut 42 = .ok (.invokevirtual 185, 3) := by decide +kernel
theorem dX5_cut_45 : decode cX5_cut 45 = .ok (.istore 4, 2) := by decide +kernel
theorem dX5_cut_47 : decode cX5_cut 47 = .ok (.aload_n 0, 1) := by decide +kernel
theorem dX5_cut_48 : decode cX5_cut 48 = .ok (.getfield 51, 3) := by decide +kernel
theorem dX5_cut_51 : decode cX5_cut 51 = .ok (.aload_n 0, 1) := by decide +kernel
theorem dX5_cut_52 : decode cX5_cut 52 = .ok (.getfield 10, 3) := by decide +kernel
theorem dX5_cut_55 : decode cX5_cut 55 = .ok (.iload 4, 2) := by decide +kernel
theorem dX5_cut_57 : decode cX5_cut 57 = .ok (.iconst 1, 1) := by decide +kernel
theorem dX5_cut_58 : decode cX5_cut 58 = .ok (.iload_n 3, 1) := by decide +kernel
theorem dX5_cut_59 : decode cX5_cut 59 = .ok (.ishl, 1) := by decide +kernel
theorem dX5_cut_60 : decode cX5_cut 60 = .ok (.iconst (-1), 1) := by decide +kernel
theorem dX5_cut_61 : decode cX5_cut 61 = .ok (.ixor, 1) := by decide +kernel
theorem dX5_cut_62 : decode cX5_cut 62 = .ok (.invokevirtual 188, 3) := by decide +kernel
theorem dX5_cut_65 : decode cX5_cut 65 = .ok (.aload_n 0, 1) := by decide +kernel
theorem dX5_cut_66 : decode cX5_cut 66 = .ok (.invokevirtual 167, 3) := by decide +kernel
theorem dX5_cut_69 : decode cX5_cut 69 = .ok (.istore 5, 2) := by decide +kernel
theorem dX5_cut_71 : decode cX5_cut 71 = .ok (.aload_n 0, 1) := by decide +kernel
theorem dX5_cut_72 : decode cX5_cut 72 = .ok (.getfield 51, 3) := by decide +kernel
theorem dX5_cut_75 : decode cX5_cut 75 = .ok (.aload_n 0, 1) := by decide +kernel
theorem dX5_cut_76 : decode cX5_cut 76 = .ok (.getfield 10, 3) := by decide +kernel
theorem dX5_cut_79 : decode cX5_cut 79 = .ok (.iload 4, 2) := by decide +kernel
theorem dX5_cut_81 : decode cX5_cut 81 = .ok (.iconst (-1), 1) := by decide +kernel
theorem dX5_cut_82 : decode cX5_cut 82 = .ok (.invokevirtual 188, 3) := by decide +kernel
theorem dX5_cut_85 : decode cX5_cut 85 = .ok (.iload 5, 2) := by decide +kernel
theorem dX5_cut_87 : decode cX5_cut 87 = .ok (.iload_n 1, 1) := by decide +kernel
theorem dX5_cut_88 : decode cX5_cut 88 = .ok (.if_icmp .le 8, 3) := by decide +kernel
theorem dX5_cut_91 : decode cX5_cut 91 = .ok (.iload 5, 2) := by decide +kernel
theorem dX5_cut_93 : decode cX5_cut 93 = .ok (.istore_n 1, 1) := by decide +kernel
theorem dX5_cut_94 : decode cX5_cut 94 = .ok (.iload_n 3, 1) := by decide +kernel
theorem dX5_cut_95 : decode cX5_cut 95 = .ok (.istore_n 2, 1) := by decide +kernel
theorem dX5_cut_96 : decode cX5_cut 96 = .ok (.iinc 3 1, 3) := by decide +kernel
theorem dX5_cut_99 : decode cX5_cut 99 = .ok (.goto (-79), 3) := by decide +kernel
theorem dX5_cut_102 : decode cX5_cut 102 = .ok (.iload_n 2, 1) := by decide +kernel
theorem dX5_cut_103 : decode cX5_cut 103 = .ok (.ireturn, 1) := by decide +kernel
theorem dX5_tie_0 : decode cX5_tie 0 = .ok (.aload_n 0, 1) := by decide +kernel
theorem dX5_tie_1 : decode cX5_tie 1 = .ok (.getfield 10, 3) := by decide +kernel
theorem dX5_tie_4 : decode cX5_tie 4 = .ok (.getfield 182, 3) := by decide +kernel
theorem dX5_tie_7 : decode cX5_tie 7 = .ok (.invokevirtual 192, 3) := by decide +kernel
theorem dX5_tie_10 : decode cX5_tie 10 = .ok (.ifCond .eq 5, 3) := by decide +kernel
theorem dX5_tie_13 : decode cX5_tie 13 = .ok (.iconst (-1), 1) := by decide +kernel
theorem dX5_tie_14 : decode cX5_tie 14 = .ok (.ireturn, 1) := by decide +kernel
theorem dX5_tie_15 : decode cX5_tie 15 = .ok (.aload_n 0, 1) := by decide +kernel
theorem dX5_tie_16 : decode cX5_tie 16 = .ok (.getfield 51, 3) := by decide +kernel
theorem dX5_tie_19 : decode cX5_tie 19 = .ok (.aload_n 0, 1) := by decide +kernel
theorem dX5_tie_20 : decode cX5_tie 20 = .ok (.getfield 10, 3) := by decide +kernel
theorem dX5_tie_23 : decode cX5_tie 23 = .ok (.invokevirtual 160, 3) := by decide +kernel
theorem dX5_tie_26 : decode cX5_tie 26 = .ok (.aload_n 0, 1) := by decide +kernel
theorem dX5_tie_27 : decode cX5_tie 27 = .ok (.iconst (-1), 1) := by decide +kernel
theorem dX5_tie_28 : decode cX5_tie 28 = .ok (.iconst (-1), 1) := by decide +kernel
theorem dX5_tie_29 : decode cX5_tie 29 = .ok (.iconst 0, 1) := by decide +kernel
theorem dX5_tie_30 : decode cX5_tie 30 = .ok (.invokevirtual 196, 3) := by decide +kernel
theorem dX5_tie_33 : decode cX5_tie 33 = .ok (.istore_n 1, 1) := by decide +kernel
theorem dX5_tie_34 : decode cX5_tie 34 = .ok (.iconst (-1), 1) := by decide +kernel
theorem dX5_tie_35 : decode cX5_tie 35 = .ok (.istore_n 2, 1) := by decide +kernel
theorem dX5_tie_36 : decode cX5_tie 36 = .ok (.iconst 0, 1) := by decide +kernel
theorem dX5_tie_37 : decode cX5_tie 37 = .ok (.istore_n 3, 1) := by decide +kernel
theorem dX5_tie_38 : decode cX5_tie 38 = .ok (.iload_n 3, 1) := by decide +kernel
theorem dX5_tie_39 : decode cX5_tie 39 = .ok (.aload_n 0, 1) := by decide +kernel
theorem dX5_tie_40 : decode cX5_tie 40 = .ok (.getfield 10, 3) := by decide +kernel
theorem dX5_tie_43 : decode cX5_tie 43 = .ok (.getfield 199, 3) := by decide +kernel
theorem dX5_tie_46 : decode cX5_tie 46 = .ok (.if_icmp .ge 100, 3) := by decide +kernel
theorem dX5_tie_49 : decode cX5_tie 49 = .ok (.iload_n 1, 1) := by decide +kernel
theorem dX5_tie_50 : decode cX5_tie 50 = .ok (.aload_n 0, 1) := by decide +kernel
theorem dX5_tie_51 : decode cX5_tie 51 = .ok (.getfield 10, 3) := by decide +kernel
theorem dX5_tie_54 : decode cX5_tie 54 = .ok (.getfield 199, 3) := by decide +kernel
theorem dX5_tie_57 : decode cX5_tie 57 = .ok (.if_icmp .ge 89, 3) := by decide +kernel
theorem dX5_tie_60 : decode cX5_tie 60 = .ok (.iconst 0, 1) := by decide +kernel
theorem dX5_tie_61 : decode cX5_tie 61 = .ok (.istore 4, 2) := by decide +kernel
theorem dX5_tie_63 : decode cX5_tie 63 = .ok (.iload 4, 2) := by decide +kernel
theorem dX5_tie_65 : decode cX5_tie 65 = .ok (.aload_n 0, 1) := by decide +kernel
theorem dX5_tie_66 : decode cX5_tie 66 = .ok (.getfield 10, 3) := by decide +kernel
theorem dX5_tie_69 : decode cX5_tie 69 = .ok (.getfield 199, 3) := by decide +kernel
theorem dX5_tie_72 : decode cX5_tie 72 = .ok (.if_icmp .ge 68, 3) := by decide +kernel
theorem dX5_tie_75 : decode cX5_tie 75 = .ok (.iconst 1, 1) := by decide +kernel
theorem dX5_tie_76 : decode cX5_tie 76 = .ok (.istore 5, 2) := by decide +kernel
theorem dX5_tie_78 : decode cX5_tie 78 = .ok (.iload 5, 2) := by decide +kernel
theorem dX5_tie_80 : decode cX5_tie 80 = .ok (.iconst (-1), 1) := by decide +kernel
theorem dX5_tie_81 : decode cX5_tie 81 = .ok (.if_icmp .lt 53, 3) := by decide +kernel
theorem dX5_tie_84 : decode cX5_tie 84 = .ok (.iload_n 3, 1) := by decide +kernel
theorem dX5_tie_85 : decode cX5_tie 85 = .ok (.iload 4, 2) := by decide +kernel
theorem dX5_tie_87 : decode cX5_tie 87 = .ok (.if_icmp .eq 47, 3) := by decide +kernel
theorem dX5_tie_90 : decode cX5_tie 90 = .ok (.aload_n 0, 1) := by decide +kernel
theorem dX5_tie_91 : decode cX5_tie 91 = .ok (.iload_n 3, 1) := by decide +kernel
theorem dX5_tie_92 : decode cX5_tie 92 = .ok (.iload 4, 2) := by decide +kernel
theorem dX5_tie_94 : decode cX5_tie 94 = .ok (.iload 5, 2) := by decide +kernel
theorem dX5_tie_96 : decode cX5_tie 96 = .ok (.invokevirtual 196, 3) := by decide +kernel
theorem dX5_tie_99 : decode cX5_tie 99 = .ok (.istore 6, 2) := by decide +kernel
theorem dX5_tie_101 : decode cX5_tie 101 = .ok (.iload 6, 2) := by decide +kernel
theorem dX5_tie_103 : decode cX5_tie 103 = .ok (.iload_n 1, 1) := by decide +kernel
theorem dX5_tie_104 : decode cX5_tie 104 = .ok (.if_icmp .le 24, 3) := by decide +kernel
theorem dX5_tie_107 : decode cX5_tie 107 = .ok (.iload 6, 2) := by decide +kernel
theorem dX5_tie_109 : decode cX5_tie 109 = .ok (.istore_n 1, 1) := by decide +kernel
theorem dX5_tie_110 : decode cX5_tie 110 = .ok (.bipush 100, 2) := by decide +kernel
theorem dX5_tie_112 : decode cX5_tie 112 = .ok (.iload_n 3, 1) := by decide +kernel
theorem dX5_tie_113 : decode cX5_tie 113 = .ok (.imul, 1) := by decide +kernel
theorem dX5_tie_114 : decode cX5_tie 114 = .ok (.bipush 10, 2) := by decide +kernel
theorem dX5_tie_116 : decode cX5_tie 116 = .ok (.iload 4, 2) := by decide +kernel
theorem dX5_tie_118 : decode cX5_tie 118 = .ok (.imul, 1) := by decide +kernel
theorem dX5_tie_119 : decode cX5_tie 119 = .ok (.iadd, 1) := by decide +kernel
theorem dX5_tie_120 : decode cX5_tie 120 = .ok (.iconst 0, 1) := by decide +kernel
theorem dX5_tie_121 : decode cX5_tie 121 = .ok (.iload 5, 2) := by decide +kernel
theorem dX5_tie_123 : decode cX5_tie 123 = .ok (.invokestatic 202, 3) := by decide +kernel
theorem dX5_tie_126 : decode cX5_tie 126 = .ok (.iadd, 1) := by decide +kernel
theorem dX5_tie_127 : decode cX5_tie 127 = .ok (.istore_n 2, 1) := by decide +kernel
theorem dX5_tie_128 : decode cX5_tie 128 = .ok (.iinc 5 (-2), 3) := by decide +kernel
theorem dX5_tie_131 : decode cX5_tie 131 = .ok (.goto (-53), 3) := by decide +kernel
theorem dX5_tie_134 : decode cX5_tie 134 = .ok (.iinc 4 1, 3) := by decide +kernel
theorem dX5_tie_137 : decode cX5_tie 137 = .ok (.goto (-74), 3) := by decide +kernel
theorem dX5_tie_140 : decode cX5_tie 140 = .ok (.iinc 3 1, 3) := by decide +kernel
theorem dX5_tie_143 : decode cX5_tie 143 = .ok (.goto (-105), 3) := by decide +kernel
theorem dX5_tie_146 : decode cX5_tie 146 = .ok (.aload_n 0, 1) := by decide +kernel
theorem dX5_tie_147 : decode cX5_tie 147 = .ok (.getfield 51, 3) := by decide +kernel
theorem dX5_tie_150 : decode cX5_tie 150 = .ok (.iconst (-1), 1) := by decide +kernel
theorem dX5_tie_151 : decode cX5_tie 151 = .ok (.iconst (-1), 1) := by decide +kernel
theorem dX5_tie_152 : decode cX5_tie 152 = .ok (.iconst 0, 1) := by decide +kernel
theorem dX5_tie_153 : decode cX5_tie 153 = .ok (.invokevirtual 207, 3) := by decide +kernel
theorem dX5_tie_156 : decode cX5_tie 156 = .ok (.iload_n 2, 1) := by decide +kernel
theorem dX5_tie_157 : decode cX5_tie 157 = .ok (.ireturn, 1) := by decide +kernel
theorem dX5_day_0 : decode cX5_day 0 = .ok (.iload_n 1, 1) := by decide +kernel
theorem dX5_day_1 : decode cX5_day 1 = .ok (.ifCond .lt 8, 3) := by decide +kernel
theorem dX5_day_4 : decode cX5_day 4 = .ok (.iload_n 1, 1) := by decide +kernel
theorem dX5_day_5 : decode cX5_day 5 = .ok (.iconst 1, 1) := by decide +kernel
theorem dX5_day_6 : decode cX5_day 6 = .ok (.if_icmp .le 10, 3) := by decide +kernel
theorem dX5_day_9 : decode cX5_day 9 = .ok (.aload_n 0, 1) := by decide +kernel
theorem dX5_day_10 : decode cX5_day 10 = .ok (.bipush (-2), 2) := by decide +kernel
theorem dX5_day_12 : decode cX5_day 12 = .ok (.invokevirtual 85, 3) := by decide +kernel
theorem dX5_day_15 : decode cX5_day 15 = .ok (.ireturn, 1) := by decide +kernel
theorem dX5_day_16 : decode cX5_day 16 = .ok (.aload_n 0, 1) := by decide +kernel
theorem dX5_day_17 : decode cX5_day 17 = .ok (.getfield 51, 3) := by decide +kernel
theorem dX5_day_20 : decode cX5_day 20 = .ok (.aload_n 0, 1) := by decide +kernel
theorem dX5_day_21 : decode cX5_day 21 = .ok (.getfield 10, 3) := by decide +kernel
theorem dX5_day_24 : decode cX5_day 24 = .ok (.invokevirtual 160, 3) := by decide +kernel
theorem dX5_day_27 : decode cX5_day 27 = .ok (.aload_n 0, 1) := by decide +kernel
theorem dX5_day_28 : decode cX5_day 28 = .ok (.getfield 58, 3) := by decide +kernel
theorem dX5_day_31 : decode cX5_day 31 = .ok (.aload_n 0, 1) := by decide +kernel
theorem dX5_day_32 : decode cX5_day 32 = .ok (.getfield 10, 3) := by decide +kernel
theorem dX5_day_35 : decode cX5_day 35 = .ok (.aload_n 0, 1) := by decide +kernel
theorem dX5_day_36 : decode cX5_day 36 = .ok (.getfield 51, 3) := by decide +kernel
theorem dX5_day_39 : decode cX5_day 39 = .ok (.iconst 0, 1) := by decide +kernel
theorem dX5_day_40 : decode cX5_day 40 = .ok (.iconst 0, 1) := by decide +kernel
theorem dX5_day_41 : decode cX5_day 41 = .ok (.invokevirtual 211, 3) := by decide +kernel
theorem dX5_day_44 : decode cX5_day 44 = .ok (.iload_n 1, 1) := by decide +kernel
theorem dX5_day_45 : decode cX5_day 45 = .ok (.ifCond .ne 13, 3) := by decide +kernel
theorem dX5_day_48 : decode cX5_day 48 = .ok (.aload_n 0, 1) := by decide +kernel
theorem dX5_day_49 : decode cX5_day 49 = .ok (.getfield 58, 3) := by decide +kernel
theorem dX5_day_52 : decode cX5_day 52 = .ok (.getfield 215, 3) := by decide +kernel
theorem dX5_day_55 : decode cX5_day 55 = .ok (.goto 10, 3) := by decide +kernel
theorem dX5_day_58 : decode cX5_day 58 = .ok (.aload_n 0, 1) := by decide +kernel
theorem dX5_day_59 : decode cX5_day 59 = .ok (.getfield 58, 3) := by decide +kernel
theorem dX5_day_62 : decode cX5_day 62 = .ok (.getfield 218, 3) := by decide +kernel
theorem dX5_day_65 : decode cX5_day 65 = .ok (.ireturn, 1) := by decide +kernel
theorem dX5_laid_0 : decode cX5_laid 0 = .ok (.aload_n 0, 1) := by decide +kernel
theorem dX5_laid_1 : decode cX5_laid 1 = .ok (.getfield 51, 3) := by decide +kernel
theorem dX5_laid_4 : decode cX5_laid 4 = .ok (.aload_n 0, 1) := by decide +kernel
theorem dX5_laid_5 : decode cX5_laid 5 = .ok (.getfield 10, 3) := by decide +kernel
theorem dX5_laid_8 : decode cX5_laid 8 = .ok (.invokevirtual 160, 3) := by decide +kernel
theorem dX5_laid_11 : decode cX5_laid 11 = .ok (.aload_n 0, 1) := by decide +kernel
theorem dX5_laid_12 : decode cX5_laid 12 = .ok (.getfield 58, 3) := by decide +kernel
theorem dX5_laid_15 : decode cX5_laid 15 = .ok (.aload_n 0, 1) := by decide +kernel
theorem dX5_laid_16 : decode cX5_laid 16 = .ok (.getfield 10, 3) := by decide +kernel
theorem dX5_laid_19 : decode cX5_laid 19 = .ok (.aload_n 0, 1) := by decide +kernel
theorem dX5_laid_20 : decode cX5_laid 20 = .ok (.getfield 51, 3) := by decide +kernel
theorem dX5_laid_23 : decode cX5_laid 23 = .ok (.iconst 0, 1) := by decide +kernel
theorem dX5_laid_24 : decode cX5_laid 24 = .ok (.iconst 0, 1) := by decide +kernel
theorem dX5_laid_25 : decode cX5_laid 25 = .ok (.invokevirtual 211, 3) := by decide +kernel
theorem dX5_laid_28 : decode cX5_laid 28 = .ok (.iconst (-1), 1) := by decide +kernel
theorem dX5_laid_29 : decode cX5_laid 29 = .ok (.istore_n 1, 1) := by decide +kernel
theorem dX5_laid_30 : decode cX5_laid 30 = .ok (.iconst 0, 1) := by decide +kernel
theorem dX5_laid_31 : decode cX5_laid 31 = .ok (.istore_n 2, 1) := by decide +kernel
theorem dX5_laid_32 : decode cX5_laid 32 = .ok (.iload_n 2, 1) := by decide +kernel
theorem dX5_laid_33 : decode cX5_laid 33 = .ok (.aload_n 0, 1) := by decide +kernel
theorem dX5_laid_34 : decode cX5_laid 34 = .ok (.getfield 10, 3) := by decide +kernel
theorem dX5_laid_37 : decode cX5_laid 37 = .ok (.getfield 199, 3) := by decide +kernel
theorem dX5_laid_40 : decode cX5_laid 40 = .ok (.if_icmp .ge 107, 3) := by decide +kernel
theorem dX5_laid_43 : decode cX5_laid 43 = .ok (.iload_n 2, 1) := by decide +kernel
theorem dX5_laid_44 : decode cX5_laid 44 = .ok (.iconst 1, 1) := by decide +kernel
theorem dX5_laid_45 : decode cX5_laid 45 = .ok (.iadd, 1) := by decide +kernel
theorem dX5_laid_46 : decode cX5_laid 46 = .ok (.istore_n 3, 1) := by decide +kernel
theorem dX5_laid_47 : decode cX5_laid 47 = .ok (.iload_n 3, 1) := by decide +kernel
theorem dX5_laid_48 : decode cX5_laid 48 = .ok (.aload_n 0, 1) := by decide +kernel
theorem dX5_laid_49 : decode cX5_laid 49 = .ok (.getfield 10, 3) := by decide +kernel
theorem dX5_laid_52 : decode cX5_laid 52 = .ok (.getfield 199, 3) := by decide +kernel
theorem dX5_laid_55 : decode cX5_laid 55 = .ok (.if_icmp .ge 86, 3) := by decide +kernel
theorem dX5_laid_58 : decode cX5_laid 58 = .ok (.aload_n 0, 1) := by decide +kernel
theorem dX5_laid_59 : decode cX5_laid 59 = .ok (.getfield 10, 3) := by decide +kernel
theorem dX5_laid_62 : decode cX5_laid 62 = .ok (.getfield 221, 3) := by decide +kernel
theorem dX5_laid_65 : decode cX5_laid 65 = .ok (.iload_n 2, 1) := by decide +kernel
theorem dX5_laid_66 : decode cX5_laid 66 = .ok (.invokevirtual 185, 3) := by decide +kernel
theorem dX5_laid_69 : decode cX5_laid 69 = .ok (.aload_n 0, 1) := by decide +kernel
theorem dX5_laid_70 : decode cX5_laid 70 = .ok (.getfield 10, 3) := by decide +kernel
theorem dX5_laid_73 : decode cX5_laid 73 = .ok (.getfield 221, 3) := by decide +kernel
theorem dX5_laid_76 : decode cX5_laid 76 = .ok (.iload_n 3, 1) := by decide +kernel
theorem dX5_laid_77 : decode cX5_laid 77 = .ok (.invokevirtual 185, 3) := by decide +kernel
theorem dX5_laid_80 : decode cX5_laid 80 = .ok (.if_icmp .ne 6, 3) := by decide +kernel
theorem dX5_laid_83 : decode cX5_laid 83 = .ok (.goto 52, 3) := by decide +kernel
theorem dX5_laid_86 : decode cX5_laid 86 = .ok (.aload_n 0, 1) := by decide +kernel
theorem dX5_laid_87 : decode cX5_laid 87 = .ok (.getfield 62, 3) := by decide +kernel
theorem dX5_laid_90 : decode cX5_laid 90 = .ok (.aload_n 0, 1) := by decide +kernel
theorem dX5_laid_91 : decode cX5_laid 91 = .ok (.getfield 10, 3) := by decide +kernel
theorem dX5_laid_94 : decode cX5_laid 94 = .ok (.aload_n 0, 1) := by decide +kernel
theorem dX5_laid_95 : decode cX5_laid 95 = .ok (.getfield 51, 3) := by decide +kernel
theorem dX5_laid_98 : decode cX5_laid 98 = .ok (.iload_n 2, 1) := by decide +kernel
theorem dX5_laid_99 : decode cX5_laid 99 = .ok (.iload_n 3, 1) := by decide +kernel
theorem dX5_laid_100 : decode cX5_laid 100 = .ok (.invokevirtual 211, 3) := by decide +kernel
theorem dX5_laid_103 : decode cX5_laid 103 = .ok (.aload_n 0, 1) := by decide +kernel
theorem dX5_laid_104 : decode cX5_laid 104 = .ok (.getfield 62, 3) := by decide +kernel
theorem dX5_laid_107 : decode cX5_laid 107 = .ok (.aload_n 0, 1) := by decide +kernel
theorem dX5_laid_108 : decode cX5_laid 108 = .ok (.getfield 58, 3) := by decide +kernel
theorem dX5_laid_111 : decode cX5_laid 111 = .ok (.invokevirtual 224, 3) := by decide +kernel
theorem dX5_laid_114 : decode cX5_laid 114 = .ok (.ifCond .eq 21, 3) := by decide +kernel
theorem dX5_laid_117 : decode cX5_laid 117 = .ok (.aload_n 0, 1) := by decide +kernel
theorem dX5_laid_118 : decode cX5_laid 118 = .ok (.getfield 58, 3) := by decide +kernel
theorem dX5_laid_121 : decode cX5_laid 121 = .ok (.aload_n 0, 1) := by decide +kernel
theorem dX5_laid_122 : decode cX5_laid 122 = .ok (.getfield 62, 3) := by decide +kernel
theorem dX5_laid_125 : decode cX5_laid 125 = .ok (.invokevirtual 228, 3) := by decide +kernel
theorem dX5_laid_128 : decode cX5_laid 128 = .ok (.bipush 10, 2) := by decide +kernel
theorem dX5_laid_130 : decode cX5_laid 130 = .ok (.iload_n 2, 1) := by decide +kernel
theorem dX5_laid_131 : decode cX5_laid 131 = .ok (.imul, 1) := by decide +kernel
theorem dX5_laid_132 : decode cX5_laid 132 = .ok (.iload_n 3, 1) := by decide +kernel
theorem dX5_laid_133 : decode cX5_laid 133 = .ok (.iadd, 1) := by decide +kernel
theorem dX5_laid_134 : decode cX5_laid 134 = .ok (.istore_n 1, 1) := by decide +kernel
theorem dX5_laid_135 : decode cX5_laid 135 = .ok (.iinc 3 1, 3) := by decide +kernel
theorem dX5_laid_138 : decode cX5_laid 138 = .ok (.goto (-91), 3) := by decide +kernel
theorem dX5_laid_141 : decode cX5_laid 141 = .ok (.iinc 2 1, 3) := by decide +kernel
theorem dX5_laid_144 : decode cX5_laid 144 = .ok (.goto (-112), 3) := by decide +kernel
theorem dX5_laid_147 : decode cX5_laid 147 = .ok (.iload_n 1, 1) := by decide +kernel
theorem dX5_laid_148 : decode cX5_laid 148 = .ok (.ireturn, 1) := by decide +kernel
theorem dX5_danger_0 : decode cX5_danger 0 = .ok (.aload_n 0, 1) := by decide +kernel
theorem dX5_danger_1 : decode cX5_danger 1 = .ok (.getfield 10, 3) := by decide +kernel
theorem dX5_danger_4 : decode cX5_danger 4 = .ok (.iload_n 1, 1) := by decide +kernel
theorem dX5_danger_5 : decode cX5_danger 5 = .ok (.invokevirtual 154, 3) := by decide +kernel
theorem dX5_danger_8 : decode cX5_danger 8 = .ok (.ifCond .ne 10, 3) := by decide +kernel
theorem dX5_danger_11 : decode cX5_danger 11 = .ok (.aload_n 0, 1) := by decide +kernel
theorem dX5_danger_12 : decode cX5_danger 12 = .ok (.bipush (-2), 2) := by decide +kernel
theorem dX5_danger_14 : decode cX5_danger 14 = .ok (.invokevirtual 85, 3) := by decide +kernel
theorem dX5_danger_17 : decode cX5_danger 17 = .ok (.ireturn, 1) := by decide +kernel
theorem dX5_danger_18 : decode cX5_danger 18 = .ok (.aload_n 0, 1) := by decide +kernel
theorem dX5_danger_19 : decode cX5_danger 19 = .ok (.getfield 10, 3) := by decide +kernel
theorem dX5_danger_22 : decode cX5_danger 22 = .ok (.iload_n 1, 1) := by decide +kernel
theorem dX5_danger_23 : decode cX5_danger 23 = .ok (.invokevirtual 231, 3) := by decide +kernel
theorem dX5_danger_26 : decode cX5_danger 26 = .ok (.ifCond .eq 7, 3) := by decide +kernel
theorem dX5_danger_29 : decode cX5_danger 29 = .ok (.iconst 1, 1) := by decide +kernel
theorem dX5_danger_30 : decode cX5_danger 30 = .ok (.goto 4, 3) := by decide +kernel
theorem dX5_danger_33 : decode cX5_danger 33 = .ok (.iconst 0, 1) := by decide +kernel
theorem dX5_danger_34 : decode cX5_danger 34 = .ok (.ireturn, 1) := by decide +kernel
theorem dX5_sight_0 : decode cX5_sight 0 = .ok (.aload_n 0, 1) := by decide +kernel
theorem dX5_sight_1 : decode cX5_sight 1 = .ok (.getfield 10, 3) := by decide +kernel
theorem dX5_sight_4 : decode cX5_sight 4 = .ok (.iload_n 1, 1) := by decide +kernel
theorem dX5_sight_5 : decode cX5_sight 5 = .ok (.invokevirtual 134, 3) := by decide +kernel
theorem dX5_sight_8 : decode cX5_sight 8 = .ok (.ifCond .eq 14, 3) := by decide +kernel
theorem dX5_sight_11 : decode cX5_sight 11 = .ok (.aload_n 0, 1) := by decide +kernel
theorem dX5_sight_12 : decode cX5_sight 12 = .ok (.getfield 10, 3) := by decide +kernel
theorem dX5_sight_15 : decode cX5_sight 15 = .ok (.iload_n 2, 1) := by decide +kernel
theorem dX5_sight_16 : decode cX5_sight 16 = .ok (.invokevirtual 154, 3) := by decide +kernel
theorem dX5_sight_19 : decode cX5_sight 19 = .ok (.ifCond .ne 10, 3) := by decide +kernel
theorem dX5_sight_22 : decode cX5_sight 22 = .ok (.aload_n 0, 1) := by decide +kernel
theorem dX5_sight_23 : decode cX5_sight 23 = .ok (.bipush (-2), 2) := by decide +kernel
theorem dX5_sight_25 : decode cX5_sight 25 = .ok (.invokevirtual 85, 3) := by decide +kernel
theorem dX5_sight_28 : decode cX5_sight 28 = .ok (.ireturn, 1) := by decide +kernel
theorem dX5_sight_29 : decode cX5_sight 29 = .ok (.aload_n 0, 1) := by decide +kernel
theorem dX5_sight_30 : decode cX5_sight 30 = .ok (.getfield 10, 3) := by decide +kernel
theorem dX5_sight_33 : decode cX5_sight 33 = .ok (.getfield 234, 3) := by decide +kernel
theorem dX5_sight_36 : decode cX5_sight 36 = .ok (.invokevirtual 192, 3) := by decide +kernel
theorem dX5_sight_39 : decode cX5_sight 39 = .ok (.ifCond .eq 10, 3) := by decide +kernel
theorem dX5_sight_42 : decode cX5_sight 42 = .ok (.aload_n 0, 1) := by decide +kernel
theorem dX5_sight_43 : decode cX5_sight 43 = .ok (.bipush (-4), 2) := by decide +kernel
theorem dX5_sight_45 : decode cX5_sight 45 = .ok (.invokevirtual 85, 3) := by decide +kernel
theorem dX5_sight_48 : decode cX5_sight 48 = .ok (.ireturn, 1) := by decide +kernel
theorem dX5_sight_49 : decode cX5_sight 49 = .ok (.aload_n 0, 1) := by decide +kernel
theorem dX5_sight_50 : decode cX5_sight 50 = .ok (.getfield 10, 3) := by decide +kernel
theorem dX5_sight_53 : decode cX5_sight 53 = .ok (.getfield 234, 3) := by decide +kernel
theorem dX5_sight_56 : decode cX5_sight 56 = .ok (.iload_n 1, 1) := by decide +kernel
theorem dX5_sight_57 : decode cX5_sight 57 = .ok (.invokevirtual 113, 3) := by decide +kernel
theorem dX5_sight_60 : decode cX5_sight 60 = .ok (.aload_n 0, 1) := by decide +kernel
theorem dX5_sight_61 : decode cX5_sight 61 = .ok (.getfield 10, 3) := by decide +kernel
theorem dX5_sight_64 : decode cX5_sight 64 = .ok (.getfield 237, 3) := by decide +kernel
theorem dX5_sight_67 : decode cX5_sight 67 = .ok (.iload_n 2, 1) := by decide +kernel
theorem dX5_sight_68 : decode cX5_sight 68 = .ok (.invokevirtual 113, 3) := by decide +kernel
theorem dX5_sight_71 : decode cX5_sight 71 = .ok (.aload_n 0, 1) := by decide +kernel
theorem dX5_sight_72 : decode cX5_sight 72 = .ok (.getfield 10, 3) := by decide +kernel
theorem dX5_sight_75 : decode cX5_sight 75 = .ok (.getfield 234, 3) := by decide +kernel
theorem dX5_sight_78 : decode cX5_sight 78 = .ok (.invokevirtual 109, 3) := by decide +kernel
theorem dX5_sight_81 : decode cX5_sight 81 = .ok (.iconst 1, 1) := by decide +kernel
theorem dX5_sight_82 : decode cX5_sight 82 = .ok (.isub, 1) := by decide +kernel
theorem dX5_sight_83 : decode cX5_sight 83 = .ok (.ireturn, 1) := by decide +kernel
theorem dX5_none_0 : decode cX5_none 0 = .ok (.iload_n 1, 1) := by decide +kernel
theorem dX5_none_1 : decode cX5_none 1 = .ok (.ifCond .lt 8, 3) := by decide +kernel
theorem dX5_none_4 : decode cX5_none 4 = .ok (.iload_n 1, 1) := by decide +kernel
theorem dX5_none_5 : decode cX5_none 5 = .ok (.iconst 1, 1) := by decide +kernel
theorem dX5_none_6 : decode cX5_none 6 = .ok (.if_icmp .le 10, 3) := by decide +kernel
theorem dX5_none_9 : decode cX5_none 9 = .ok (.aload_n 0, 1) := by decide +kernel
theorem dX5_none_10 : decode cX5_none 10 = .ok (.bipush (-2), 2) := by decide +kernel
theorem dX5_none_12 : decode cX5_none 12 = .ok (.invokevirtual 85, 3) := by decide +kernel
theorem dX5_none_15 : decode cX5_none 15 = .ok (.ireturn, 1) := by decide +kernel
theorem dX5_none_16 : decode cX5_none 16 = .ok (.iload_n 1, 1) := by decide +kernel
theorem dX5_none_17 : decode cX5_none 17 = .ok (.ifCond .ne 16, 3) := by decide +kernel
theorem dX5_none_20 : decode cX5_none 20 = .ok (.aload_n 0, 1) := by decide +kernel
theorem dX5_none_21 : decode cX5_none 21 = .ok (.getfield 10, 3) := by decide +kernel
theorem dX5_none_24 : decode cX5_none 24 = .ok (.getfield 240, 3) := by decide +kernel
theorem dX5_none_27 : decode cX5_none 27 = .ok (.invokevirtual 109, 3) := by decide +kernel
theorem dX5_none_30 : decode cX5_none 30 = .ok (.goto 13, 3) := by decide +kernel
theorem dX5_none_33 : decode cX5_none 33 = .ok (.aload_n 0, 1) := by decide +kernel
theorem dX5_none_34 : decode cX5_none 34 = .ok (.getfield 10, 3) := by decide +kernel
theorem dX5_none_37 : decode cX5_none 37 = .ok (.getfield 234, 3) := by decide +kernel
theorem dX5_none_40 : decode cX5_none 40 = .ok (.invokevirtual 109, 3) := by decide +kernel
theorem dX5_none_43 : decode cX5_none 43 = .ok (.istore_n 2, 1) := by decide +kernel
theorem dX5_none_44 : decode cX5_none 44 = .ok (.iload_n 1, 1) := by decide +kernel
theorem dX5_none_45 : decode cX5_none 45 = .ok (.ifCond .ne 16, 3) := by decide +kernel
theorem dX5_none_48 : decode cX5_none 48 = .ok (.aload_n 0, 1) := by decide +kernel
theorem dX5_none_49 : decode cX5_none 49 = .ok (.getfield 10, 3) := by decide +kernel
theorem dX5_none_52 : decode cX5_none 52 = .ok (.getfield 240, 3) := by decide +kernel
theorem dX5_none_55 : decode cX5_none 55 = .ok (.invokevirtual 116, 3) := by decide +kernel
theorem dX5_none_58 : decode cX5_none 58 = .ok (.goto 23, 3) := by decide +kernel
theorem dX5_none_61 : decode cX5_none 61 = .ok (.aload_n 0, 1) := by decide +kernel
theorem dX5_none_62 : decode cX5_none 62 = .ok (.getfield 10, 3) := by decide +kernel
theorem dX5_none_65 : decode cX5_none 65 = .ok (.getfield 234, 3) := by decide +kernel
theorem dX5_none_68 : decode cX5_none 68 = .ok (.invokevirtual 116, 3) := by decide +kernel
theorem dX5_none_71 : decode cX5_none 71 = .ok (.aload_n 0, 1) := by decide +kernel
theorem dX5_none_72 : decode cX5_none 72 = .ok (.getfield 10, 3) := by decide +kernel
theorem dX5_none_75 : decode cX5_none 75 = .ok (.getfield 237, 3) := by decide +kernel
theorem dX5_none_78 : decode cX5_none 78 = .ok (.invokevirtual 116, 3) := by decide +kernel
theorem dX5_none_81 : decode cX5_none 81 = .ok (.iload_n 2, 1) := by decide +kernel
theorem dX5_none_82 : decode cX5_none 82 = .ok (.ireturn, 1) := by decide +kernel
theorem dX5_fits_0 : decode cX5_fits 0 = .ok (.iload_n 1, 1) := by decide +kernel
theorem dX5_fits_1 : decode cX5_fits 1 = .ok (.ifCond .lt 8, 3) := by decide +kernel
theorem dX5_fits_4 : decode cX5_fits 4 = .ok (.iload_n 1, 1) := by decide +kernel
theorem dX5_fits_5 : decode cX5_fits 5 = .ok (.iconst 1, 1) := by decide +kernel
theorem dX5_fits_6 : decode cX5_fits 6 = .ok (.if_icmp .le 10, 3) := by decide +kernel
theorem dX5_fits_9 : decode cX5_fits 9 = .ok (.aload_n 0, 1) := by decide +kernel
theorem dX5_fits_10 : decode cX5_fits 10 = .ok (.bipush (-2), 2) := by decide +kernel
theorem dX5_fits_12 : decode cX5_fits 12 = .ok (.invokevirtual 85, 3) := by decide +kernel
theorem dX5_fits_15 : decode cX5_fits 15 = .ok (.ireturn, 1) := by decide +kernel
theorem dX5_fits_16 : decode cX5_fits 16 = .ok (.iconst 1, 1) := by decide +kernel
theorem dX5_fits_17 : decode cX5_fits 17 = .ok (.aload_n 0, 1) := by decide +kernel
theorem dX5_fits_18 : decode cX5_fits 18 = .ok (.getfield 10, 3) := by decide +kernel
theorem dX5_fits_21 : decode cX5_fits 21 = .ok (.getfield 182, 3) := by decide +kernel
theorem dX5_fits_24 : decode cX5_fits 24 = .ok (.invokevirtual 109, 3) := by decide +kernel
theorem dX5_fits_27 : decode cX5_fits 27 = .ok (.ishl, 1) := by decide +kernel
theorem dX5_fits_28 : decode cX5_fits 28 = .ok (.istore_n 2, 1) := by decide +kernel
theorem dX5_fits_29 : decode cX5_fits 29 = .ok (.iconst 0, 1) := by decide +kernel
theorem dX5_fits_30 : decode cX5_fits 30 = .ok (.istore_n 3, 1) := by decide +kernel
theorem dX5_fits_31 : decode cX5_fits 31 = .ok (.iconst (-1), 1) := by decide +kernel
theorem dX5_fits_32 : decode cX5_fits 32 = .ok (.istore 4, 2) := by decide +kernel
theorem dX5_fits_34 : decode cX5_fits 34 = .ok (.iconst 0, 1) := by decide +kernel
theorem dX5_fits_35 : decode cX5_fits 35 = .ok (.istore 5, 2) := by decide +kernel
theorem dX5_fits_37 : decode cX5_fits 37 = .ok (.iload 5, 2) := by decide +kernel
theorem dX5_fits_39 : decode cX5_fits 39 = .ok (.iload_n 2, 1) := by decide +kernel
theorem dX5_fits_40 : decode cX5_fits 40 = .ok (.if_icmp .ge 35, 3) := by decide +kernel
theorem dX5_fits_43 : decode cX5_fits 43 = .ok (.aload_n 0, 1) := by decide +kernel
theorem dX5_fits_44 : decode cX5_fits 44 = .ok (.getfield 10, 3) := by decide +kernel
theorem dX5_fits_47 : decode cX5_fits 47 = .ok (.iload 5, 2) := by decide +kernel
theorem dX5_fits_49 : decode cX5_fits 49 = .ok (.invokevirtual 243, 3) := by decide +kernel
theorem dX5_fits_52 : decode cX5_fits 52 = .ok (.ifCond .ne 6, 3) := by decide +kernel
theorem dX5_fits_55 : decode cX5_fits 55 = .ok (.goto 14, 3) := by decide +kernel
theorem dX5_fits_58 : decode cX5_fits 58 = .ok (.iload_n 3, 1) := by decide +kernel
theorem dX5_fits_59 : decode cX5_fits 59 = .ok (.ifCond .ne 7, 3) := by decide +kernel
theorem dX5_fits_62 : decode cX5_fits 62 = .ok (.iload 5, 2) := by decide +kernel
theorem dX5_fits_64 : decode cX5_fits 64 = .ok (.istore 4, 2) := by decide +kernel
theorem dX5_fits_66 : decode cX5_fits 66 = .ok (.iinc 3 1, 3) := by decide +kernel
theorem dX5_fits_69 : decode cX5_fits 69 = .ok (.iinc 5 1, 3) := by decide +kernel
theorem dX5_fits_72 : decode cX5_fits 72 = .ok (.goto (-35), 3) := by decide +kernel
theorem dX5_fits_75 : decode cX5_fits 75 = .ok (.iload_n 1, 1) := by decide +kernel
theorem dX5_fits_76 : decode cX5_fits 76 = .ok (.ifCond .ne 5, 3) := by decide +kernel
theorem dX5_fits_79 : decode cX5_fits 79 = .ok (.iload_n 3, 1) := by decide +kernel
theorem dX5_fits_80 : decode cX5_fits 80 = .ok (.ireturn, 1) := by decide +kernel
theorem dX5_fits_81 : decode cX5_fits 81 = .ok (.iload_n 3, 1) := by decide +kernel
theorem dX5_fits_82 : decode cX5_fits 82 = .ok (.ifCond .ne 12, 3) := by decide +kernel
theorem dX5_fits_85 : decode cX5_fits 85 = .ok (.aload_n 0, 1) := by decide +kernel
theorem dX5_fits_86 : decode cX5_fits 86 = .ok (.bipush (-3), 2) := by decide +kernel
theorem dX5_fits_88 : decode cX5_fits 88 = .ok (.invokevirtual 85, 3) := by decide +kernel
theorem dX5_fits_91 : decode cX5_fits 91 = .ok (.goto 5, 3) := by decide +kernel
theorem dX5_fits_94 : decode cX5_fits 94 = .ok (.iload 4, 2) := by decide +kernel
theorem dX5_fits_96 : decode cX5_fits 96 = .ok (.ireturn, 1) := by decide +kernel
theorem dX5_image_0 : decode cX5_image 0 = .ok (.iload_n 1, 1) := by decide +kernel
theorem dX5_image_1 : decode cX5_image 1 = .ok (.ifCond .lt 8, 3) := by decide +kernel
theorem dX5_image_4 : decode cX5_image 4 = .ok (.iload_n 1, 1) := by decide +kernel
theorem dX5_image_5 : decode cX5_image 5 = .ok (.iconst 2, 1) := by decide +kernel
theorem dX5_image_6 : decode cX5_image 6 = .ok (.if_icmp .lt 10, 3) := by decide +kernel
theorem dX5_image_9 : decode cX5_image 9 = .ok (.aload_n 0, 1) := by decide +kernel
theorem dX5_image_10 : decode cX5_image 10 = .ok (.bipush (-2), 2) := by decide +kernel
theorem dX5_image_12 : decode cX5_image 12 = .ok (.invokevirtual 85, 3) := by decide +kernel
theorem dX5_image_15 : decode cX5_image 15 = .ok (.ireturn, 1) := by decide +kernel
theorem dX5_image_16 : decode cX5_image 16 = .ok (.aload_n 0, 1) := by decide +kernel
theorem dX5_image_17 : decode cX5_image 17 = .ok (.iload_n 1, 1) := by decide +kernel
theorem dX5_image_18 : decode cX5_image 18 = .ok (.invokevirtual 246, 3) := by decide +kernel
theorem dX5_image_21 : decode cX5_image 21 = .ok (.aload_n 0, 1) := by decide +kernel
theorem dX5_image_22 : decode cX5_image 22 = .ok (.getfield 10, 3) := by decide +kernel
theorem dX5_image_25 : decode cX5_image 25 = .ok (.invokevirtual 127, 3) := by decide +kernel
theorem dX5_image_28 : decode cX5_image 28 = .ok (.iload_n 1, 1) := by decide +kernel
theorem dX5_image_29 : decode cX5_image 29 = .ok (.ifCond .ne 11, 3) := by decide +kernel
theorem dX5_image_32 : decode cX5_image 32 = .ok (.aload_n 0, 1) := by decide +kernel
theorem dX5_image_33 : decode cX5_image 33 = .ok (.iconst 1, 1) := by decide +kernel
theorem dX5_image_34 : decode cX5_image 34 = .ok (.putfield 25, 3) := by decide +kernel
theorem dX5_image_37 : decode cX5_image 37 = .ok (.goto 8, 3) := by decide +kernel
theorem dX5_image_40 : decode cX5_image 40 = .ok (.aload_n 0, 1) := by decide +kernel
theorem dX5_image_41 : decode cX5_image 41 = .ok (.iconst 1, 1) := by decide +kernel
theorem dX5_image_42 : decode cX5_image 42 = .ok (.putfield 29, 3) := by decide +kernel
theorem dX5_image_45 : decode cX5_image 45 = .ok (.iconst 1, 1) := by decide +kernel
theorem dX5_image_46 : decode cX5_image 46 = .ok (.ireturn, 1) := by decide +kernel
theorem dX5_from_0 : decode cX5_from 0 = .ok (.iload_n 1, 1) := by decide +kernel
theorem dX5_from_1 : decode cX5_from 1 = .ok (.ifCond .lt 8, 3) := by decide +kernel
theorem dX5_from_4 : decode cX5_from 4 = .ok (.iload_n 1, 1) := by decide +kernel
theorem dX5_from_5 : decode cX5_from 5 = .ok (.iconst 2, 1) := by decide +kernel
theorem dX5_from_6 : decode cX5_from 6 = .ok (.if_icmp .lt 10, 3) := by decide +kernel
theorem dX5_from_9 : decode cX5_from 9 = .ok (.aload_n 0, 1) := by decide +kernel
theorem dX5_from_10 : decode cX5_from 10 = .ok (.bipush (-2), 2) := by decide +kernel
theorem dX5_from_12 : decode cX5_from 12 = .ok (.invokevirtual 85, 3) := by decide +kernel
theorem dX5_from_15 : decode cX5_from 15 = .ok (.ireturn, 1) := by decide +kernel
theorem dX5_from_16 : decode cX5_from 16 = .ok (.iload_n 1, 1) := by decide +kernel
theorem dX5_from_17 : decode cX5_from 17 = .ok (.ifCond .ne 10, 3) := by decide +kernel
theorem dX5_from_20 : decode cX5_from 20 = .ok (.aload_n 0, 1) := by decide +kernel
theorem dX5_from_21 : decode cX5_from 21 = .ok (.getfield 25, 3) := by decide +kernel
theorem dX5_from_24 : decode cX5_from 24 = .ok (.goto 7, 3) := by decide +kernel
theorem dX5_from_27 : decode cX5_from 27 = .ok (.aload_n 0, 1) := by decide +kernel
theorem dX5_from_28 : decode cX5_from 28 = .ok (.getfield 29, 3) := by decide +kernel
theorem dX5_from_31 : decode cX5_from 31 = .ok (.istore_n 2, 1) := by decide +kernel
theorem dX5_from_32 : decode cX5_from 32 = .ok (.iload_n 2, 1) := by decide +kernel
theorem dX5_from_33 : decode cX5_from 33 = .ok (.ifCond .ne 10, 3) := by decide +kernel
theorem dX5_from_36 : decode cX5_from 36 = .ok (.aload_n 0, 1) := by decide +kernel
theorem dX5_from_37 : decode cX5_from 37 = .ok (.bipush (-3), 2) := by decide +kernel
theorem dX5_from_39 : decode cX5_from 39 = .ok (.invokevirtual 85, 3) := by decide +kernel
theorem dX5_from_42 : decode cX5_from 42 = .ok (.ireturn, 1) := by decide +kernel
theorem dX5_from_43 : decode cX5_from 43 = .ok (.aload_n 0, 1) := by decide +kernel
theorem dX5_from_44 : decode cX5_from 44 = .ok (.getfield 10, 3) := by decide +kernel
theorem dX5_from_47 : decode cX5_from 47 = .ok (.aload_n 0, 1) := by decide +kernel
theorem dX5_from_48 : decode cX5_from 48 = .ok (.iload_n 1, 1) := by decide +kernel
theorem dX5_from_49 : decode cX5_from 49 = .ok (.invokevirtual 246, 3) := by decide +kernel
theorem dX5_from_52 : decode cX5_from 52 = .ok (.invokevirtual 127, 3) := by decide +kernel
theorem dX5_from_55 : decode cX5_from 55 = .ok (.aload_n 0, 1) := by decide +kernel
theorem dX5_from_56 : decode cX5_from 56 = .ok (.getfield 51, 3) := by decide +kernel
theorem dX5_from_59 : decode cX5_from 59 = .ok (.invokevirtual 78, 3) := by decide +kernel
theorem dX5_from_62 : decode cX5_from 62 = .ok (.iconst 1, 1) := by decide +kernel
theorem dX5_from_63 : decode cX5_from 63 = .ok (.ireturn, 1) := by decide +kernel
theorem dX5_status_0 : decode cX5_status 0 = .ok (.iload_n 1, 1) := by decide +kernel
theorem dX5_status_1 : decode cX5_status 1 = .ok (.ifCond .ne 8, 3) := by decide +kernel
theorem dX5_status_4 : decode cX5_status 4 = .ok (.aload_n 0, 1) := by decide +kernel
theorem dX5_status_5 : decode cX5_status 5 = .ok (.getfield 68, 3) := by decide +kernel
theorem dX5_status_8 : decode cX5_status 8 = .ok (.ireturn, 1) := by decide +kernel
theorem dX5_status_9 : decode cX5_status 9 = .ok (.iload_n 1, 1) := by decide +kernel
theorem dX5_status_10 : decode cX5_status 10 = .ok (.iconst 1, 1) := by decide +kernel
theorem dX5_status_11 : decode cX5_status 11 = .ok (.if_icmp .ne 8, 3) := by decide +kernel
theorem dX5_status_14 : decode cX5_status 14 = .ok (.aload_n 0, 1) := by decide +kernel
theorem dX5_status_15 : decode cX5_status 15 = .ok (.getfield 72, 3) := by decide +kernel
theorem dX5_status_18 : decode cX5_status 18 = .ok (.ireturn, 1) := by decide +kernel
theorem dX5_status_19 : decode cX5_status 19 = .ok (.iload_n 1, 1) := by decide +kernel
theorem dX5_status_20 : decode cX5_status 20 = .ok (.iconst 2, 1) := by decide +kernel
theorem dX5_status_21 : decode cX5_status 21 = .ok (.if_icmp .ne 8, 3) := by decide +kernel
theorem dX5_status_24 : decode cX5_status 24 = .ok (.aload_n 0, 1) := by decide +kernel
theorem dX5_status_25 : decode cX5_status 25 = .ok (.getfield 75, 3) := by decide +kernel
theorem dX5_status_28 : decode cX5_status 28 = .ok (.ireturn, 1) := by decide +kernel
theorem dX5_status_29 : decode cX5_status 29 = .ok (.aload_n 0, 1) := by decide +kernel
theorem dX5_status_30 : decode cX5_status 30 = .ok (.bipush (-2), 2) := by decide +kernel
theorem dX5_status_32 : decode cX5_status 32 = .ok (.invokevirtual 85, 3) := by decide +kernel
theorem dX5_status_35 : decode cX5_status 35 = .ok (.pop, 1) := by decide +kernel
theorem dX5_status_36 : decode cX5_status 36 = .ok (.iconst (-1), 1) := by decide +kernel
theorem dX5_status_37 : decode cX5_status 37 = .ok (.ireturn, 1) := by decide +kernel
theorem dX5_count_0 : decode cX5_count 0 = .ok (.iload_n 1, 1) := by decide +kernel
theorem dX5_count_1 : decode cX5_count 1 = .ok (.ifCond .lt 9, 3) := by decide +kernel
theorem dX5_count_4 : decode cX5_count 4 = .ok (.iload_n 1, 1) := by decide +kernel
theorem dX5_count_5 : decode cX5_count 5 = .ok (.bipush 7, 2) := by decide +kernel
theorem dX5_count_7 : decode cX5_count 7 = .ok (.if_icmp .lt 10, 3) := by decide +kernel
theorem dX5_count_10 : decode cX5_count 10 = .ok (.aload_n 0, 1) := by decide +kernel
theorem dX5_count_11 : decode cX5_count 11 = .ok (.bipush (-2), 2) := by decide +kernel
theorem dX5_count_13 : decode cX5_count 13 = .ok (.invokevirtual 85, 3) := by decide +kernel
theorem dX5_count_16 : decode cX5_count 16 = .ok (.ireturn, 1) := by decide +kernel
theorem dX5_count_17 : decode cX5_count 17 = .ok (.aload_n 0, 1) := by decide +kernel
theorem dX5_count_18 : decode cX5_count 18 = .ok (.iload_n 1, 1) := by decide +kernel
theorem dX5_count_19 : decode cX5_count 19 = .ok (.invokevirtual 250, 3) := by decide +kernel
theorem dX5_count_22 : decode cX5_count 22 = .ok (.ireturn, 1) := by decide +kernel
theorem dX5_digest_0 : decode cX5_digest 0 = .ok (.ldc2_w 253, 3) := by decide +kernel
theorem dX5_digest_3 : decode cX5_digest 3 = .ok (.lstore_n 1, 1) := by decide +kernel
theorem dX5_digest_4 : decode cX5_digest 4 = .ok (.iconst 0, 1) := by decide +kernel
theorem dX5_digest_5 : decode cX5_digest 5 = .ok (.istore_n 3, 1) := by decide +kernel
theorem dX5_digest_6 : decode cX5_digest 6 = .ok (.iload_n 3, 1) := by decide +kernel
theorem dX5_digest_7 : decode cX5_digest 7 = .ok (.bipush 7, 2) := by decide +kernel
theorem dX5_digest_9 : decode cX5_digest 9 = .ok (.if_icmp .ge 22, 3) := by decide +kernel
theorem dX5_digest_12 : decode cX5_digest 12 = .ok (.ldc2_w 255, 3) := by decide +kernel
theorem dX5_digest_15 : decode cX5_digest 15 = .ok (.lload_n 1, 1) := by decide +kernel
theorem dX5_digest_16 : decode cX5_digest 16 = .ok (.lmul, 1) := by decide +kernel
theorem dX5_digest_17 : decode cX5_digest 17 = .ok (.aload_n 0, 1) := by decide +kernel
theorem dX5_digest_18 : decode cX5_digest 18 = .ok (.iload_n 3, 1) := by decide +kernel
theorem dX5_digest_19 : decode cX5_digest 19 = .ok (.invokevirtual 250, 3) := by decide +kernel
theorem dX5_digest_22 : decode cX5_digest 22 = .ok (.i2l, 1) := by decide +kernel
theorem dX5_digest_23 : decode cX5_digest 23 = .ok (.ladd, 1) := by decide +kernel
theorem dX5_digest_24 : decode cX5_digest 24 = .ok (.lstore_n 1, 1) := by decide +kernel
theorem dX5_digest_25 : decode cX5_digest 25 = .ok (.iinc 3 1, 3) := by decide +kernel
theorem dX5_digest_28 : decode cX5_digest 28 = .ok (.goto (-22), 3) := by decide +kernel
theorem dX5_digest_31 : decode cX5_digest 31 = .ok (.iconst 0, 1) := by decide +kernel
theorem dX5_digest_32 : decode cX5_digest 32 = .ok (.istore_n 3, 1) := by decide +kernel
theorem dX5_digest_33 : decode cX5_digest 33 = .ok (.iload_n 3, 1) := by decide +kernel
theorem dX5_digest_34 : decode cX5_digest 34 = .ok (.aload_n 0, 1) := by decide +kernel
theorem dX5_digest_35 : decode cX5_digest 35 = .ok (.getfield 10, 3) := by decide +kernel
theorem dX5_digest_38 : decode cX5_digest 38 = .ok (.getfield 199, 3) := by decide +kernel
theorem dX5_digest_41 : decode cX5_digest 41 = .ok (.if_icmp .ge 52, 3) := by decide +kernel
theorem dX5_digest_44 : decode cX5_digest 44 = .ok (.ldc2_w 255, 3) := by decide +kernel
theorem dX5_digest_47 : decode cX5_digest 47 = .ok (.lload_n 1, 1) := by decide +kernel
theorem dX5_digest_48 : decode cX5_digest 48 = .ok (.lmul, 1) := by decide +kernel
theorem dX5_digest_49 : decode cX5_digest 49 = .ok (.aload_n 0, 1) := by decide +kernel
theorem dX5_digest_50 : decode cX5_digest 50 = .ok (.getfield 10, 3) := by decide +kernel
theorem dX5_digest_53 : decode cX5_digest 53 = .ok (.iload_n 3, 1) := by decide +kernel
theorem dX5_digest_54 : decode cX5_digest 54 = .ok (.invokevirtual 257, 3) := by decide +kernel
theorem dX5_digest_57 : decode cX5_digest 57 = .ok (.ifCond .eq 7, 3) := by decide +kernel
theorem dX5_digest_60 : decode cX5_digest 60 = .ok (.iconst 1, 1) := by decide +kernel
theorem dX5_digest_61 : decode cX5_digest 61 = .ok (.goto 4, 3) := by decide +kernel
theorem dX5_digest_64 : decode cX5_digest 64 = .ok (.iconst 0, 1) := by decide +kernel
theorem dX5_digest_65 : decode cX5_digest 65 = .ok (.i2l, 1) := by decide +kernel
theorem dX5_digest_66 : decode cX5_digest 66 = .ok (.ladd, 1) := by decide +kernel
theorem dX5_digest_67 : decode cX5_digest 67 = .ok (.lstore_n 1, 1) := by decide +kernel
theorem dX5_digest_68 : decode cX5_digest 68 = .ok (.ldc2_w 255, 3) := by decide +kernel
theorem dX5_digest_71 : decode cX5_digest 71 = .ok (.lload_n 1, 1) := by decide +kernel
theorem dX5_digest_72 : decode cX5_digest 72 = .ok (.lmul, 1) := by decide +kernel
theorem dX5_digest_73 : decode cX5_digest 73 = .ok (.aload_n 0, 1) := by decide +kernel
theorem dX5_digest_74 : decode cX5_digest 74 = .ok (.getfield 10, 3) := by decide +kernel
theorem dX5_digest_77 : decode cX5_digest 77 = .ok (.getfield 221, 3) := by decide +kernel
theorem dX5_digest_80 : decode cX5_digest 80 = .ok (.iload_n 3, 1) := by decide +kernel
theorem dX5_digest_81 : decode cX5_digest 81 = .ok (.invokevirtual 185, 3) := by decide +kernel
theorem dX5_digest_84 : decode cX5_digest 84 = .ok (.i2l, 1) := by decide +kernel
theorem dX5_digest_85 : decode cX5_digest 85 = .ok (.ladd, 1) := by decide +kernel
theorem dX5_digest_86 : decode cX5_digest 86 = .ok (.lstore_n 1, 1) := by decide +kernel
theorem dX5_digest_87 : decode cX5_digest 87 = .ok (.iinc 3 1, 3) := by decide +kernel
theorem dX5_digest_90 : decode cX5_digest 90 = .ok (.goto (-57), 3) := by decide +kernel
theorem dX5_digest_93 : decode cX5_digest 93 = .ok (.iconst 0, 1) := by decide +kernel
theorem dX5_digest_94 : decode cX5_digest 94 = .ok (.istore_n 3, 1) := by decide +kernel
theorem dX5_digest_95 : decode cX5_digest 95 = .ok (.iload_n 3, 1) := by decide +kernel
theorem dX5_digest_96 : decode cX5_digest 96 = .ok (.aload_n 0, 1) := by decide +kernel
theorem dX5_digest_97 : decode cX5_digest 97 = .ok (.getfield 10, 3) := by decide +kernel
theorem dX5_digest_100 : decode cX5_digest 100 = .ok (.getfield 182, 3) := by decide +kernel
theorem dX5_digest_103 : decode cX5_digest 103 = .ok (.invokevirtual 109, 3) := by decide +kernel
theorem dX5_digest_106 : decode cX5_digest 106 = .ok (.if_icmp .ge 85, 3) := by decide +kernel
theorem dX5_digest_109 : decode cX5_digest 109 = .ok (.ldc2_w 255, 3) := by decide +kernel
theorem dX5_digest_112 : decode cX5_digest 112 = .ok (.lload_n 1, 1) := by decide +kernel
theorem dX5_digest_113 : decode cX5_digest 113 = .ok (.lmul, 1) := by decide +kernel
theorem dX5_digest_114 : decode cX5_digest 114 = .ok (.aload_n 0, 1) := by decide +kernel
theorem dX5_digest_115 : decode cX5_digest 115 = .ok (.getfield 10, 3) := by decide +kernel
theorem dX5_digest_118 : decode cX5_digest 118 = .ok (.getfield 182, 3) := by decide +kernel
theorem dX5_digest_121 : decode cX5_digest 121 = .ok (.iload_n 3, 1) := by decide +kernel
theorem dX5_digest_122 : decode cX5_digest 122 = .ok (.invokevirtual 185, 3) := by decide +kernel
theorem dX5_digest_125 : decode cX5_digest 125 = .ok (.i2l, 1) := by decide +kernel
theorem dX5_digest_126 : decode cX5_digest 126 = .ok (.ladd, 1) := by decide +kernel
theorem dX5_digest_127 : decode cX5_digest 127 = .ok (.lstore_n 1, 1) := by decide +kernel
theorem dX5_digest_128 : decode cX5_digest 128 = .ok (.ldc2_w 255, 3) := by decide +kernel
theorem dX5_digest_131 : decode cX5_digest 131 = .ok (.lload_n 1, 1) := by decide +kernel
theorem dX5_digest_132 : decode cX5_digest 132 = .ok (.lmul, 1) := by decide +kernel
theorem dX5_digest_133 : decode cX5_digest 133 = .ok (.aload_n 0, 1) := by decide +kernel
theorem dX5_digest_134 : decode cX5_digest 134 = .ok (.getfield 10, 3) := by decide +kernel
theorem dX5_digest_137 : decode cX5_digest 137 = .ok (.getfield 260, 3) := by decide +kernel
theorem dX5_digest_140 : decode cX5_digest 140 = .ok (.iload_n 3, 1) := by decide +kernel
theorem dX5_digest_141 : decode cX5_digest 141 = .ok (.invokevirtual 185, 3) := by decide +kernel
theorem dX5_digest_144 : decode cX5_digest 144 = .ok (.i2l, 1) := by decide +kernel
theorem dX5_digest_145 : decode cX5_digest 145 = .ok (.ladd, 1) := by decide +kernel
theorem dX5_digest_146 : decode cX5_digest 146 = .ok (.lstore_n 1, 1) := by decide +kernel
theorem dX5_digest_147 : decode cX5_digest 147 = .ok (.ldc2_w 255, 3) := by decide +kernel
theorem dX5_digest_150 : decode cX5_digest 150 = .ok (.lload_n 1, 1) := by decide +kernel
theorem dX5_digest_151 : decode cX5_digest 151 = .ok (.lmul, 1) := by decide +kernel
theorem dX5_digest_152 : decode cX5_digest 152 = .ok (.aload_n 0, 1) := by decide +kernel
theorem dX5_digest_153 : decode cX5_digest 153 = .ok (.getfield 10, 3) := by decide +kernel
theorem dX5_digest_156 : decode cX5_digest 156 = .ok (.getfield 263, 3) := by decide +kernel
theorem dX5_digest_159 : decode cX5_digest 159 = .ok (.iload_n 3, 1) := by decide +kernel
theorem dX5_digest_160 : decode cX5_digest 160 = .ok (.invokevirtual 185, 3) := by decide +kernel
theorem dX5_digest_163 : decode cX5_digest 163 = .ok (.i2l, 1) := by decide +kernel
theorem dX5_digest_164 : decode cX5_digest 164 = .ok (.ladd, 1) := by decide +kernel
theorem dX5_digest_165 : decode cX5_digest 165 = .ok (.lstore_n 1, 1) := by decide +kernel
theorem dX5_digest_166 : decode cX5_digest 166 = .ok (.ldc2_w 255, 3) := by decide +kernel
theorem dX5_digest_169 : decode cX5_digest 169 = .ok (.lload_n 1, 1) := by decide +kernel
theorem dX5_digest_170 : decode cX5_digest 170 = .ok (.lmul, 1) := by decide +kernel
theorem dX5_digest_171 : decode cX5_digest 171 = .ok (.aload_n 0, 1) := by decide +kernel
theorem dX5_digest_172 : decode cX5_digest 172 = .ok (.getfield 10, 3) := by decide +kernel
theorem dX5_digest_175 : decode cX5_digest 175 = .ok (.getfield 266, 3) := by decide +kernel
theorem dX5_digest_178 : decode cX5_digest 178 = .ok (.iload_n 3, 1) := by decide +kernel
theorem dX5_digest_179 : decode cX5_digest 179 = .ok (.invokevirtual 185, 3) := by decide +kernel
theorem dX5_digest_182 : decode cX5_digest 182 = .ok (.i2l, 1) := by decide +kernel
theorem dX5_digest_183 : decode cX5_digest 183 = .ok (.ladd, 1) := by decide +kernel
theorem dX5_digest_184 : decode cX5_digest 184 = .ok (.lstore_n 1, 1) := by decide +kernel
theorem dX5_digest_185 : decode cX5_digest 185 = .ok (.iinc 3 1, 3) := by decide +kernel
theorem dX5_digest_188 : decode cX5_digest 188 = .ok (.goto (-93), 3) := by decide +kernel
theorem dX5_digest_191 : decode cX5_digest 191 = .ok (.ldc2_w 255, 3) := by decide +kernel
theorem dX5_digest_194 : decode cX5_digest 194 = .ok (.lload_n 1, 1) := by decide +kernel
theorem dX5_digest_195 : decode cX5_digest 195 = .ok (.lmul, 1) := by decide +kernel
theorem dX5_digest_196 : decode cX5_digest 196 = .ok (.aload_n 0, 1) := by decide +kernel
theorem dX5_digest_197 : decode cX5_digest 197 = .ok (.getfield 10, 3) := by decide +kernel
theorem dX5_digest_200 : decode cX5_digest 200 = .ok (.getfield 100, 3) := by decide +kernel
theorem dX5_digest_203 : decode cX5_digest 203 = .ok (.i2l, 1) := by decide +kernel
theorem dX5_digest_204 : decode cX5_digest 204 = .ok (.ladd, 1) := by decide +kernel
theorem dX5_digest_205 : decode cX5_digest 205 = .ok (.lstore_n 1, 1) := by decide +kernel
theorem dX5_digest_206 : decode cX5_digest 206 = .ok (.ldc2_w 255, 3) := by decide +kernel
theorem dX5_digest_209 : decode cX5_digest 209 = .ok (.lload_n 1, 1) := by decide +kernel
theorem dX5_digest_210 : decode cX5_digest 210 = .ok (.lmul, 1) := by decide +kernel
theorem dX5_digest_211 : decode cX5_digest 211 = .ok (.aload_n 0, 1) := by decide +kernel
theorem dX5_digest_212 : decode cX5_digest 212 = .ok (.getfield 10, 3) := by decide +kernel
theorem dX5_digest_215 : decode cX5_digest 215 = .ok (.getfield 103, 3) := by decide +kernel
theorem dX5_digest_218 : decode cX5_digest 218 = .ok (.i2l, 1) := by decide +kernel
theorem dX5_digest_219 : decode cX5_digest 219 = .ok (.ladd, 1) := by decide +kernel
theorem dX5_digest_220 : decode cX5_digest 220 = .ok (.lstore_n 1, 1) := by decide +kernel
theorem dX5_digest_221 : decode cX5_digest 221 = .ok (.iconst 0, 1) := by decide +kernel
theorem dX5_digest_222 : decode cX5_digest 222 = .ok (.istore_n 3, 1) := by decide +kernel
theorem dX5_digest_223 : decode cX5_digest 223 = .ok (.iload_n 3, 1) := by decide +kernel
theorem dX5_digest_224 : decode cX5_digest 224 = .ok (.aload_n 0, 1) := by decide +kernel
theorem dX5_digest_225 : decode cX5_digest 225 = .ok (.getfield 10, 3) := by decide +kernel
theorem dX5_digest_228 : decode cX5_digest 228 = .ok (.getfield 240, 3) := by decide +kernel
theorem dX5_digest_231 : decode cX5_digest 231 = .ok (.invokevirtual 109, 3) := by decide +kernel
theorem dX5_digest_234 : decode cX5_digest 234 = .ok (.if_icmp .ge 28, 3) := by decide +kernel
theorem dX5_digest_237 : decode cX5_digest 237 = .ok (.ldc2_w 255, 3) := by decide +kernel
theorem dX5_digest_240 : decode cX5_digest 240 = .ok (.lload_n 1, 1) := by decide +kernel
theorem dX5_digest_241 : decode cX5_digest 241 = .ok (.lmul, 1) := by decide +kernel
theorem dX5_digest_242 : decode cX5_digest 242 = .ok (.aload_n 0, 1) := by decide +kernel
theorem dX5_digest_243 : decode cX5_digest 243 = .ok (.getfield 10, 3) := by decide +kernel
theorem dX5_digest_246 : decode cX5_digest 246 = .ok (.getfield 240, 3) := by decide +kernel
theorem dX5_digest_249 : decode cX5_digest 249 = .ok (.iload_n 3, 1) := by decide +kernel
theorem dX5_digest_250 : decode cX5_digest 250 = .ok (.invokevirtual 185, 3) := by decide +kernel
theorem dX5_digest_253 : decode cX5_digest 253 = .ok (.i2l, 1) := by decide +kernel
theorem dX5_digest_254 : decode cX5_digest 254 = .ok (.ladd, 1) := by decide +kernel
theorem dX5_digest_255 : decode cX5_digest 255 = .ok (.lstore_n 1, 1) := by decide +kernel
theorem dX5_digest_256 : decode cX5_digest 256 = .ok (.iinc 3 1, 3) := by decide +kernel
theorem dX5_digest_259 : decode cX5_digest 259 = .ok (.goto (-36), 3) := by decide +kernel
theorem dX5_digest_262 : decode cX5_digest 262 = .ok (.iconst 0, 1) := by decide +kernel
theorem dX5_digest_263 : decode cX5_digest 263 = .ok (.istore_n 3, 1) := by decide +kernel
theorem dX5_digest_264 : decode cX5_digest 264 = .ok (.iload_n 3, 1) := by decide +kernel
theorem dX5_digest_265 : decode cX5_digest 265 = .ok (.aload_n 0, 1) := by decide +kernel
theorem dX5_digest_266 : decode cX5_digest 266 = .ok (.getfield 10, 3) := by decide +kernel
theorem dX5_digest_269 : decode cX5_digest 269 = .ok (.getfield 234, 3) := by decide +kernel
theorem dX5_digest_272 : decode cX5_digest 272 = .ok (.invokevirtual 109, 3) := by decide +kernel
theorem dX5_digest_275 : decode cX5_digest 275 = .ok (.if_icmp .ge 47, 3) := by decide +kernel
theorem dX5_digest_278 : decode cX5_digest 278 = .ok (.ldc2_w 255, 3) := by decide +kernel
theorem dX5_digest_281 : decode cX5_digest 281 = .ok (.lload_n 1, 1) := by decide +kernel
theorem dX5_digest_282 : decode cX5_digest 282 = .ok (.lmul, 1) := by decide +kernel
theorem dX5_digest_283 : decode cX5_digest 283 = .ok (.aload_n 0, 1) := by decide +kernel
theorem dX5_digest_284 : decode cX5_digest 284 = .ok (.getfield 10, 3) := by decide +kernel
theorem dX5_digest_287 : decode cX5_digest 287 = .ok (.getfield 234, 3) := by decide +kernel
theorem dX5_digest_290 : decode cX5_digest 290 = .ok (.iload_n 3, 1) := by decide +kernel
theorem dX5_digest_291 : decode cX5_digest 291 = .ok (.invokevirtual 185, 3) := by decide +kernel
theorem dX5_digest_294 : decode cX5_digest 294 = .ok (.i2l, 1) := by decide +kernel
theorem dX5_digest_295 : decode cX5_digest 295 = .ok (.ladd, 1) := by decide +kernel
theorem dX5_digest_296 : decode cX5_digest 296 = .ok (.lstore_n 1, 1) := by decide +kernel
theorem dX5_digest_297 : decode cX5_digest 297 = .ok (.ldc2_w 255, 3) := by decide +kernel
theorem dX5_digest_300 : decode cX5_digest 300 = .ok (.lload_n 1, 1) := by decide +kernel
theorem dX5_digest_301 : decode cX5_digest 301 = .ok (.lmul, 1) := by decide +kernel
theorem dX5_digest_302 : decode cX5_digest 302 = .ok (.aload_n 0, 1) := by decide +kernel
theorem dX5_digest_303 : decode cX5_digest 303 = .ok (.getfield 10, 3) := by decide +kernel
theorem dX5_digest_306 : decode cX5_digest 306 = .ok (.getfield 237, 3) := by decide +kernel
theorem dX5_digest_309 : decode cX5_digest 309 = .ok (.iload_n 3, 1) := by decide +kernel
theorem dX5_digest_310 : decode cX5_digest 310 = .ok (.invokevirtual 185, 3) := by decide +kernel
theorem dX5_digest_313 : decode cX5_digest 313 = .ok (.i2l, 1) := by decide +kernel
theorem dX5_digest_314 : decode cX5_digest 314 = .ok (.ladd, 1) := by decide +kernel
theorem dX5_digest_315 : decode cX5_digest 315 = .ok (.lstore_n 1, 1) := by decide +kernel
theorem dX5_digest_316 : decode cX5_digest 316 = .ok (.iinc 3 1, 3) := by decide +kernel
theorem dX5_digest_319 : decode cX5_digest 319 = .ok (.goto (-55), 3) := by decide +kernel
theorem dX5_digest_322 : decode cX5_digest 322 = .ok (.lload_n 1, 1) := by decide +kernel
theorem dX5_digest_323 : decode cX5_digest 323 = .ok (.lreturn, 1) := by decide +kernel
theorem dX5_told_0 : decode cX5_told 0 = .ok (.iload_n 1, 1) := by decide +kernel
theorem dX5_told_1 : decode cX5_told 1 = .ok (.bipush (-2), 2) := by decide +kernel
theorem dX5_told_3 : decode cX5_told 3 = .ok (.if_icmp .ne 13, 3) := by decide +kernel
theorem dX5_told_6 : decode cX5_told 6 = .ok (.aload_n 0, 1) := by decide +kernel
theorem dX5_told_7 : decode cX5_told 7 = .ok (.dup, 1) := by decide +kernel
theorem dX5_told_8 : decode cX5_told 8 = .ok (.getfield 68, 3) := by decide +kernel
theorem dX5_told_11 : decode cX5_told 11 = .ok (.iconst 1, 1) := by decide +kernel
theorem dX5_told_12 : decode cX5_told 12 = .ok (.iadd, 1) := by decide +kernel
theorem dX5_told_13 : decode cX5_told 13 = .ok (.putfield 68, 3) := by decide +kernel
theorem dX5_told_16 : decode cX5_told 16 = .ok (.iload_n 1, 1) := by decide +kernel
theorem dX5_told_17 : decode cX5_told 17 = .ok (.bipush (-3), 2) := by decide +kernel
theorem dX5_told_19 : decode cX5_told 19 = .ok (.if_icmp .ne 13, 3) := by decide +kernel
theorem dX5_told_22 : decode cX5_told 22 = .ok (.aload_n 0, 1) := by decide +kernel
theorem dX5_told_23 : decode cX5_told 23 = .ok (.dup, 1) := by decide +kernel
theorem dX5_told_24 : decode cX5_told 24 = .ok (.getfield 72, 3) := by decide +kernel
theorem dX5_told_27 : decode cX5_told 27 = .ok (.iconst 1, 1) := by decide +kernel
theorem dX5_told_28 : decode cX5_told 28 = .ok (.iadd, 1) := by decide +kernel
theorem dX5_told_29 : decode cX5_told 29 = .ok (.putfield 72, 3) := by decide +kernel
theorem dX5_told_32 : decode cX5_told 32 = .ok (.iload_n 1, 1) := by decide +kernel
theorem dX5_told_33 : decode cX5_told 33 = .ok (.bipush (-4), 2) := by decide +kernel
theorem dX5_told_35 : decode cX5_told 35 = .ok (.if_icmp .ne 13, 3) := by decide +kernel
theorem dX5_told_38 : decode cX5_told 38 = .ok (.aload_n 0, 1) := by decide +kernel
theorem dX5_told_39 : decode cX5_told 39 = .ok (.dup, 1) := by decide +kernel
theorem dX5_told_40 : decode cX5_told 40 = .ok (.getfield 75, 3) := by decide +kernel
theorem dX5_told_43 : decode cX5_told 43 = .ok (.iconst 1, 1) := by decide +kernel
theorem dX5_told_44 : decode cX5_told 44 = .ok (.iadd, 1) := by decide +kernel
theorem dX5_told_45 : decode cX5_told 45 = .ok (.putfield 75, 3) := by decide +kernel
theorem dX5_told_48 : decode cX5_told 48 = .ok (.iload_n 1, 1) := by decide +kernel
theorem dX5_told_49 : decode cX5_told 49 = .ok (.ireturn, 1) := by decide +kernel
theorem dX5_countOf_0 : decode cX5_countOf 0 = .ok (.iload_n 1, 1) := by decide +kernel
theorem dX5_countOf_1 : decode cX5_countOf 1 = .ok (.tableswitch 99 0 5 #[39, 47, 58, 69, 80, 88], 39) := by decide +kernel
theorem dX5_countOf_40 : decode cX5_countOf 40 = .ok (.aload_n 0, 1) := by decide +kernel
theorem dX5_countOf_41 : decode cX5_countOf 41 = .ok (.getfield 10, 3) := by decide +kernel
theorem dX5_countOf_44 : decode cX5_countOf 44 = .ok (.getfield 199, 3) := by decide +kernel
theorem dX5_countOf_47 : decode cX5_countOf 47 = .ok (.ireturn, 1) := by decide +kernel
theorem dX5_countOf_48 : decode cX5_countOf 48 = .ok (.aload_n 0, 1) := by decide +kernel
theorem dX5_countOf_49 : decode cX5_countOf 49 = .ok (.getfield 10, 3) := by decide +kernel
theorem dX5_countOf_52 : decode cX5_countOf 52 = .ok (.getfield 182, 3) := by decide +kernel
theorem dX5_countOf_55 : decode cX5_countOf 55 = .ok (.invokevirtual 109, 3) := by decide +kernel
theorem dX5_countOf_58 : decode cX5_countOf 58 = .ok (.ireturn, 1) := by decide +kernel
theorem dX5_countOf_59 : decode cX5_countOf 59 = .ok (.aload_n 0, 1) := by decide +kernel
theorem dX5_countOf_60 : decode cX5_countOf 60 = .ok (.getfield 10, 3) := by decide +kernel
theorem dX5_countOf_63 : decode cX5_countOf 63 = .ok (.getfield 240, 3) := by decide +kernel
theorem dX5_countOf_66 : decode cX5_countOf 66 = .ok (.invokevirtual 109, 3) := by decide +kernel
theorem dX5_countOf_69 : decode cX5_countOf 69 = .ok (.ireturn, 1) := by decide +kernel
theorem dX5_countOf_70 : decode cX5_countOf 70 = .ok (.aload_n 0, 1) := by decide +kernel
theorem dX5_countOf_71 : decode cX5_countOf 71 = .ok (.getfield 10, 3) := by decide +kernel
theorem dX5_countOf_74 : decode cX5_countOf 74 = .ok (.getfield 234, 3) := by decide +kernel
theorem dX5_countOf_77 : decode cX5_countOf 77 = .ok (.invokevirtual 109, 3) := by decide +kernel
theorem dX5_countOf_80 : decode cX5_countOf 80 = .ok (.ireturn, 1) := by decide +kernel
theorem dX5_countOf_81 : decode cX5_countOf 81 = .ok (.aload_n 0, 1) := by decide +kernel
theorem dX5_countOf_82 : decode cX5_countOf 82 = .ok (.getfield 37, 3) := by decide +kernel
theorem dX5_countOf_85 : decode cX5_countOf 85 = .ok (.invokevirtual 109, 3) := by decide +kernel
theorem dX5_countOf_88 : decode cX5_countOf 88 = .ok (.ireturn, 1) := by decide +kernel
theorem dX5_countOf_89 : decode cX5_countOf 89 = .ok (.aload_n 0, 1) := by decide +kernel
theorem dX5_countOf_90 : decode cX5_countOf 90 = .ok (.getfield 10, 3) := by decide +kernel
theorem dX5_countOf_93 : decode cX5_countOf 93 = .ok (.getfield 148, 3) := by decide +kernel
theorem dX5_countOf_96 : decode cX5_countOf 96 = .ok (.invokevirtual 109, 3) := by decide +kernel
theorem dX5_countOf_99 : decode cX5_countOf 99 = .ok (.ireturn, 1) := by decide +kernel
theorem dX5_countOf_100 : decode cX5_countOf 100 = .ok (.aload_n 0, 1) := by decide +kernel
theorem dX5_countOf_101 : decode cX5_countOf 101 = .ok (.getfield 10, 3) := by decide +kernel
theorem dX5_countOf_104 : decode cX5_countOf 104 = .ok (.getfield 141, 3) := by decide +kernel
theorem dX5_countOf_107 : decode cX5_countOf 107 = .ok (.ireturn, 1) := by decide +kernel
theorem dX5_imageAt_0 : decode cX5_imageAt 0 = .ok (.iload_n 1, 1) := by decide +kernel
theorem dX5_imageAt_1 : decode cX5_imageAt 1 = .ok (.ifCond .ne 10, 3) := by decide +kernel
theorem dX5_imageAt_4 : decode cX5_imageAt 4 = .ok (.aload_n 0, 1) := by decide +kernel
theorem dX5_imageAt_5 : decode cX5_imageAt 5 = .ok (.getfield 19, 3) := by decide +kernel
theorem dX5_imageAt_8 : decode cX5_imageAt 8 = .ok (.goto 7, 3) := by decide +kernel
theorem dX5_imageAt_11 : decode cX5_imageAt 11 = .ok (.aload_n 0, 1) := by decide +kernel
theorem dX5_imageAt_12 : decode cX5_imageAt 12 = .ok (.getfield 22, 3) := by decide +kernel
theorem dX5_imageAt_15 : decode cX5_imageAt 15 = .ok (.areturn, 1) := by decide +kernel
theorem dX5_reached_0 : decode cX5_reached 0 = .ok (.aload_n 0, 1) := by decide +kernel
theorem dX5_reached_1 : decode cX5_reached 1 = .ok (.getfield 51, 3) := by decide +kernel
theorem dX5_reached_4 : decode cX5_reached 4 = .ok (.invokevirtual 269, 3) := by decide +kernel
theorem dX5_reached_7 : decode cX5_reached 7 = .ok (.aload_n 0, 1) := by decide +kernel
theorem dX5_reached_8 : decode cX5_reached 8 = .ok (.getfield 51, 3) := by decide +kernel
theorem dX5_reached_11 : decode cX5_reached 11 = .ok (.aload_n 0, 1) := by decide +kernel
theorem dX5_reached_12 : decode cX5_reached 12 = .ok (.getfield 10, 3) := by decide +kernel
theorem dX5_reached_15 : decode cX5_reached 15 = .ok (.getfield 141, 3) := by decide +kernel
theorem dX5_reached_18 : decode cX5_reached 18 = .ok (.invokevirtual 272, 3) := by decide +kernel
theorem dX5_reached_21 : decode cX5_reached 21 = .ok (.aload_n 0, 1) := by decide +kernel
theorem dX5_reached_22 : decode cX5_reached 22 = .ok (.getfield 51, 3) := by decide +kernel
theorem dX5_reached_25 : decode cX5_reached 25 = .ok (.getfield 275, 3) := by decide +kernel
theorem dX5_reached_28 : decode cX5_reached 28 = .ok (.invokevirtual 109, 3) := by decide +kernel
theorem dX5_reached_31 : decode cX5_reached 31 = .ok (.ireturn, 1) := by decide +kernel
theorem dX5_openedWith_0 : decode cX5_openedWith 0 = .ok (.aload_n 0, 1) := by decide +kernel
theorem dX5_openedWith_1 : decode cX5_openedWith 1 = .ok (.getfield 51, 3) := by decide +kernel
theorem dX5_openedWith_4 : decode cX5_openedWith 4 = .ok (.iload_n 1, 1) := by decide +kernel
theorem dX5_openedWith_5 : decode cX5_openedWith 5 = .ok (.iload_n 2, 1) := by decide +kernel
theorem dX5_openedWith_6 : decode cX5_openedWith 6 = .ok (.iload_n 3, 1) := by decide +kernel
theorem dX5_openedWith_7 : decode cX5_openedWith 7 = .ok (.invokevirtual 207, 3) := by decide +kernel
theorem dX5_openedWith_10 : decode cX5_openedWith 10 = .ok (.aload_n 0, 1) := by decide +kernel
theorem dX5_openedWith_11 : decode cX5_openedWith 11 = .ok (.invokevirtual 167, 3) := by decide +kernel
theorem dX5_openedWith_14 : decode cX5_openedWith 14 = .ok (.pop, 1) := by decide +kernel
theorem dX5_openedWith_15 : decode cX5_openedWith 15 = .ok (.aload_n 0, 1) := by decide +kernel
theorem dX5_openedWith_16 : decode cX5_openedWith 16 = .ok (.getfield 51, 3) := by decide +kernel
theorem dX5_openedWith_19 : decode cX5_openedWith 19 = .ok (.invokevirtual 278, 3) := by decide +kernel
theorem dX5_openedWith_22 : decode cX5_openedWith 22 = .ok (.invokestatic 281, 3) := by decide +kernel
theorem dX5_openedWith_25 : decode cX5_openedWith 25 = .ok (.ireturn, 1) := by decide +kernel
theorem dX5_pullOf_0 : decode cX5_pullOf 0 = .ok (.aload_n 0, 1) := by decide +kernel
theorem dX5_pullOf_1 : decode cX5_pullOf 1 = .ok (.getfield 10, 3) := by decide +kernel
theorem dX5_pullOf_4 : decode cX5_pullOf 4 = .ok (.iload_n 1, 1) := by decide +kernel
theorem dX5_pullOf_5 : decode cX5_pullOf 5 = .ok (.invokevirtual 286, 3) := by decide +kernel
theorem dX5_pullOf_8 : decode cX5_pullOf 8 = .ok (.ifCond .eq 25, 3) := by decide +kernel
theorem dX5_pullOf_11 : decode cX5_pullOf 11 = .ok (.aload_n 0, 1) := by decide +kernel
theorem dX5_pullOf_12 : decode cX5_pullOf 12 = .ok (.getfield 10, 3) := by decide +kernel
theorem dX5_pullOf_15 : decode cX5_pullOf 15 = .ok (.iload_n 2, 1) := by decide +kernel
theorem dX5_pullOf_16 : decode cX5_pullOf 16 = .ok (.invokevirtual 286, 3) := by decide +kernel
theorem dX5_pullOf_19 : decode cX5_pullOf 19 = .ok (.ifCond .eq 14, 3) := by decide +kernel
theorem dX5_pullOf_22 : decode cX5_pullOf 22 = .ok (.iload_n 1, 1) := by decide +kernel
theorem dX5_pullOf_23 : decode cX5_pullOf 23 = .ok (.iload_n 2, 1) := by decide +kernel
theorem dX5_pullOf_24 : decode cX5_pullOf 24 = .ok (.iand, 1) := by decide +kernel
theorem dX5_pullOf_25 : decode cX5_pullOf 25 = .ok (.ifCond .ne 8, 3) := by decide +kernel
theorem dX5_pullOf_28 : decode cX5_pullOf 28 = .ok (.iload_n 3, 1) := by decide +kernel
theorem dX5_pullOf_29 : decode cX5_pullOf 29 = .ok (.iconst (-1), 1) := by decide +kernel
theorem dX5_pullOf_30 : decode cX5_pullOf 30 = .ok (.if_icmp .ge 13, 3) := by decide +kernel
theorem dX5_pullOf_33 : decode cX5_pullOf 33 = .ok (.aload_n 0, 1) := by decide +kernel
theorem dX5_pullOf_34 : decode cX5_pullOf 34 = .ok (.bipush (-2), 2) := by decide +kernel
theorem dX5_pullOf_36 : decode cX5_pullOf 36 = .ok (.invokevirtual 85, 3) := by decide +kernel
theorem dX5_pullOf_39 : decode cX5_pullOf 39 = .ok (.pop, 1) := by decide +kernel
theorem dX5_pullOf_40 : decode cX5_pullOf 40 = .ok (.bipush (-10), 2) := by decide +kernel
theorem dX5_pullOf_42 : decode cX5_pullOf 42 = .ok (.ireturn, 1) := by decide +kernel
theorem dX5_pullOf_43 : decode cX5_pullOf 43 = .ok (.aload_n 0, 1) := by decide +kernel
theorem dX5_pullOf_44 : decode cX5_pullOf 44 = .ok (.getfield 51, 3) := by decide +kernel
theorem dX5_pullOf_47 : decode cX5_pullOf 47 = .ok (.invokevirtual 269, 3) := by decide +kernel
theorem dX5_pullOf_50 : decode cX5_pullOf 50 = .ok (.iload 4, 2) := by decide +kernel
theorem dX5_pullOf_52 : decode cX5_pullOf 52 = .ok (.ifCond .eq 14, 3) := by decide +kernel
theorem dX5_pullOf_55 : decode cX5_pullOf 55 = .ok (.aload_n 0, 1) := by decide +kernel
theorem dX5_pullOf_56 : decode cX5_pullOf 56 = .ok (.getfield 51, 3) := by decide +kernel
theorem dX5_pullOf_59 : decode cX5_pullOf 59 = .ok (.aload_n 0, 1) := by decide +kernel
theorem dX5_pullOf_60 : decode cX5_pullOf 60 = .ok (.getfield 10, 3) := by decide +kernel
theorem dX5_pullOf_63 : decode cX5_pullOf 63 = .ok (.invokevirtual 289, 3) := by decide +kernel
theorem dX5_pullOf_66 : decode cX5_pullOf 66 = .ok (.aload_n 0, 1) := by decide +kernel
theorem dX5_pullOf_67 : decode cX5_pullOf 67 = .ok (.getfield 51, 3) := by decide +kernel
theorem dX5_pullOf_70 : decode cX5_pullOf 70 = .ok (.aload_n 0, 1) := by decide +kernel
theorem dX5_pullOf_71 : decode cX5_pullOf 71 = .ok (.getfield 10, 3) := by decide +kernel
theorem dX5_pullOf_74 : decode cX5_pullOf 74 = .ok (.getfield 141, 3) := by decide +kernel
theorem dX5_pullOf_77 : decode cX5_pullOf 77 = .ok (.iload_n 1, 1) := by decide +kernel
theorem dX5_pullOf_78 : decode cX5_pullOf 78 = .ok (.iload_n 2, 1) := by decide +kernel
theorem dX5_pullOf_79 : decode cX5_pullOf 79 = .ok (.invokevirtual 292, 3) := by decide +kernel
theorem dX5_pullOf_82 : decode cX5_pullOf 82 = .ok (.istore 5, 2) := by decide +kernel
theorem dX5_pullOf_84 : decode cX5_pullOf 84 = .ok (.iload 5, 2) := by decide +kernel
theorem dX5_pullOf_86 : decode cX5_pullOf 86 = .ok (.iconst (-1), 1) := by decide +kernel
theorem dX5_pullOf_87 : decode cX5_pullOf 87 = .ok (.if_icmp .ne 5, 3) := by decide +kernel
theorem dX5_pullOf_90 : decode cX5_pullOf 90 = .ok (.iconst (-1), 1) := by decide +kernel
theorem dX5_pullOf_91 : decode cX5_pullOf 91 = .ok (.ireturn, 1) := by decide +kernel
theorem dX5_pullOf_92 : decode cX5_pullOf 92 = .ok (.aload_n 0, 1) := by decide +kernel
theorem dX5_pullOf_93 : decode cX5_pullOf 93 = .ok (.getfield 51, 3) := by decide +kernel
theorem dX5_pullOf_96 : decode cX5_pullOf 96 = .ok (.getfield 295, 3) := by decide +kernel
theorem dX5_pullOf_99 : decode cX5_pullOf 99 = .ok (.iload 5, 2) := by decide +kernel
theorem dX5_pullOf_101 : decode cX5_pullOf 101 = .ok (.invokevirtual 185, 3) := by decide +kernel
theorem dX5_pullOf_104 : decode cX5_pullOf 104 = .ok (.istore 6, 2) := by decide +kernel
theorem dX5_pullOf_106 : decode cX5_pullOf 106 = .ok (.iload_n 3, 1) := by decide +kernel
theorem dX5_pullOf_107 : decode cX5_pullOf 107 = .ok (.iconst (-1), 1) := by decide +kernel
theorem dX5_pullOf_108 : decode cX5_pullOf 108 = .ok (.if_icmp .ne 6, 3) := by decide +kernel
theorem dX5_pullOf_111 : decode cX5_pullOf 111 = .ok (.iload 6, 2) := by decide +kernel
theorem dX5_pullOf_113 : decode cX5_pullOf 113 = .ok (.ireturn, 1) := by decide +kernel
theorem dX5_pullOf_114 : decode cX5_pullOf 114 = .ok (.iload_n 3, 1) := by decide +kernel
theorem dX5_pullOf_115 : decode cX5_pullOf 115 = .ok (.iload 6, 2) := by decide +kernel
theorem dX5_pullOf_117 : decode cX5_pullOf 117 = .ok (.if_icmp .ge 16, 3) := by decide +kernel
theorem dX5_pullOf_120 : decode cX5_pullOf 120 = .ok (.aload_n 0, 1) := by decide +kernel
theorem dX5_pullOf_121 : decode cX5_pullOf 121 = .ok (.getfield 51, 3) := by decide +kernel
theorem dX5_pullOf_124 : decode cX5_pullOf 124 = .ok (.iload 5, 2) := by decide +kernel
theorem dX5_pullOf_126 : decode cX5_pullOf 126 = .ok (.iload_n 3, 1) := by decide +kernel
theorem dX5_pullOf_127 : decode cX5_pullOf 127 = .ok (.invokevirtual 298, 3) := by decide +kernel
theorem dX5_pullOf_130 : decode cX5_pullOf 130 = .ok (.goto 5, 3) := by decide +kernel
theorem dX5_pullOf_133 : decode cX5_pullOf 133 = .ok (.bipush (-5), 2) := by decide +kernel
theorem dX5_pullOf_135 : decode cX5_pullOf 135 = .ok (.ireturn, 1) := by decide +kernel
theorem dX5_isSame_0 : decode cX5_isSame 0 = .ok (.iload_n 1, 1) := by decide +kernel
theorem dX5_isSame_1 : decode cX5_isSame 1 = .ok (.aload_n 0, 1) := by decide +kernel
theorem dX5_isSame_2 : decode cX5_isSame 2 = .ok (.getfield 10, 3) := by decide +kernel
theorem dX5_isSame_5 : decode cX5_isSame 5 = .ok (.getfield 141, 3) := by decide +kernel
theorem dX5_isSame_8 : decode cX5_isSame 8 = .ok (.invokestatic 301, 3) := by decide +kernel
theorem dX5_isSame_11 : decode cX5_isSame 11 = .ok (.istore_n 2, 1) := by decide +kernel
theorem dX5_isSame_12 : decode cX5_isSame 12 = .ok (.iconst 0, 1) := by decide +kernel
theorem dX5_isSame_13 : decode cX5_isSame 13 = .ok (.istore_n 3, 1) := by decide +kernel
theorem dX5_isSame_14 : decode cX5_isSame 14 = .ok (.iload_n 3, 1) := by decide +kernel
theorem dX5_isSame_15 : decode cX5_isSame 15 = .ok (.aload_n 0, 1) := by decide +kernel
theorem dX5_isSame_16 : decode cX5_isSame 16 = .ok (.getfield 65, 3) := by decide +kernel
theorem dX5_isSame_19 : decode cX5_isSame 19 = .ok (.invokevirtual 109, 3) := by decide +kernel
theorem dX5_isSame_22 : decode cX5_isSame 22 = .ok (.if_icmp .ge 27, 3) := by decide +kernel
theorem dX5_isSame_25 : decode cX5_isSame 25 = .ok (.iload_n 1, 1) := by decide +kernel
theorem dX5_isSame_26 : decode cX5_isSame 26 = .ok (.aload_n 0, 1) := by decide +kernel
theorem dX5_isSame_27 : decode cX5_isSame 27 = .ok (.getfield 65, 3) := by decide +kernel
theorem dX5_isSame_30 : decode cX5_isSame 30 = .ok (.iload_n 3, 1) := by decide +kernel
theorem dX5_isSame_31 : decode cX5_isSame 31 = .ok (.invokevirtual 185, 3) := by decide +kernel
theorem dX5_isSame_34 : decode cX5_isSame 34 = .ok (.invokestatic 301, 3) := by decide +kernel
theorem dX5_isSame_37 : decode cX5_isSame 37 = .ok (.iload_n 2, 1) := by decide +kernel
theorem dX5_isSame_38 : decode cX5_isSame 38 = .ok (.if_icmp .eq 5, 3) := by decide +kernel
theorem dX5_isSame_41 : decode cX5_isSame 41 = .ok (.iconst 0, 1) := by decide +kernel
theorem dX5_isSame_42 : decode cX5_isSame 42 = .ok (.ireturn, 1) := by decide +kernel
theorem dX5_isSame_43 : decode cX5_isSame 43 = .ok (.iinc 3 1, 3) := by decide +kernel
theorem dX5_isSame_46 : decode cX5_isSame 46 = .ok (.goto (-32), 3) := by decide +kernel
theorem dX5_isSame_49 : decode cX5_isSame 49 = .ok (.iconst 0, 1) := by decide +kernel
theorem dX5_isSame_50 : decode cX5_isSame 50 = .ok (.istore_n 3, 1) := by decide +kernel
theorem dX5_isSame_51 : decode cX5_isSame 51 = .ok (.iload_n 3, 1) := by decide +kernel
theorem dX5_isSame_52 : decode cX5_isSame 52 = .ok (.aload_n 0, 1) := by decide +kernel
theorem dX5_isSame_53 : decode cX5_isSame 53 = .ok (.getfield 51, 3) := by decide +kernel
theorem dX5_isSame_56 : decode cX5_isSame 56 = .ok (.getfield 275, 3) := by decide +kernel
theorem dX5_isSame_59 : decode cX5_isSame 59 = .ok (.invokevirtual 109, 3) := by decide +kernel
theorem dX5_isSame_62 : decode cX5_isSame 62 = .ok (.if_icmp .ge 43, 3) := by decide +kernel
theorem dX5_isSame_65 : decode cX5_isSame 65 = .ok (.aload_n 0, 1) := by decide +kernel
theorem dX5_isSame_66 : decode cX5_isSame 66 = .ok (.getfield 51, 3) := by decide +kernel
theorem dX5_isSame_69 : decode cX5_isSame 69 = .ok (.getfield 275, 3) := by decide +kernel
theorem dX5_isSame_72 : decode cX5_isSame 72 = .ok (.iload_n 3, 1) := by decide +kernel
theorem dX5_isSame_73 : decode cX5_isSame 73 = .ok (.invokevirtual 185, 3) := by decide +kernel
theorem dX5_isSame_76 : decode cX5_isSame 76 = .ok (.istore 4, 2) := by decide +kernel
theorem dX5_isSame_78 : decode cX5_isSame 78 = .ok (.iload_n 1, 1) := by decide +kernel
theorem dX5_isSame_79 : decode cX5_isSame 79 = .ok (.iload 4, 2) := by decide +kernel
theorem dX5_isSame_81 : decode cX5_isSame 81 = .ok (.invokestatic 301, 3) := by decide +kernel
theorem dX5_isSame_84 : decode cX5_isSame 84 = .ok (.iload_n 2, 1) := by decide +kernel
theorem dX5_isSame_85 : decode cX5_isSame 85 = .ok (.if_icmp .eq 14, 3) := by decide +kernel
theorem dX5_isSame_88 : decode cX5_isSame 88 = .ok (.aload_n 0, 1) := by decide +kernel
theorem dX5_isSame_89 : decode cX5_isSame 89 = .ok (.getfield 65, 3) := by decide +kernel
theorem dX5_isSame_92 : decode cX5_isSame 92 = .ok (.iload 4, 2) := by decide +kernel
theorem dX5_isSame_94 : decode cX5_isSame 94 = .ok (.invokevirtual 113, 3) := by decide +kernel
theorem dX5_isSame_97 : decode cX5_isSame 97 = .ok (.iconst 0, 1) := by decide +kernel
theorem dX5_isSame_98 : decode cX5_isSame 98 = .ok (.ireturn, 1) := by decide +kernel
theorem dX5_isSame_99 : decode cX5_isSame 99 = .ok (.iinc 3 1, 3) := by decide +kernel
theorem dX5_isSame_102 : decode cX5_isSame 102 = .ok (.goto (-51), 3) := by decide +kernel
theorem dX5_isSame_105 : decode cX5_isSame 105 = .ok (.iconst 1, 1) := by decide +kernel
theorem dX5_isSame_106 : decode cX5_isSame 106 = .ok (.ireturn, 1) := by decide +kernel
theorem dX5_sumOf_0 : decode cX5_sumOf 0 = .ok (.iconst 0, 1) := by decide +kernel
theorem dX5_sumOf_1 : decode cX5_sumOf 1 = .ok (.istore_n 2, 1) := by decide +kernel
theorem dX5_sumOf_2 : decode cX5_sumOf 2 = .ok (.iload_n 0, 1) := by decide +kernel
theorem dX5_sumOf_3 : decode cX5_sumOf 3 = .ok (.istore_n 3, 1) := by decide +kernel
theorem dX5_sumOf_4 : decode cX5_sumOf 4 = .ok (.iload_n 1, 1) := by decide +kernel
theorem dX5_sumOf_5 : decode cX5_sumOf 5 = .ok (.istore 4, 2) := by decide +kernel
theorem dX5_sumOf_7 : decode cX5_sumOf 7 = .ok (.iconst 0, 1) := by decide +kernel
theorem dX5_sumOf_8 : decode cX5_sumOf 8 = .ok (.istore 5, 2) := by decide +kernel
theorem dX5_sumOf_10 : decode cX5_sumOf 10 = .ok (.iload 5, 2) := by decide +kernel
theorem dX5_sumOf_12 : decode cX5_sumOf 12 = .ok (.bipush 7, 2) := by decide +kernel
theorem dX5_sumOf_14 : decode cX5_sumOf 14 = .ok (.if_icmp .ge 30, 3) := by decide +kernel
theorem dX5_sumOf_17 : decode cX5_sumOf 17 = .ok (.iload_n 2, 1) := by decide +kernel
theorem dX5_sumOf_18 : decode cX5_sumOf 18 = .ok (.iload_n 3, 1) := by decide +kernel
theorem dX5_sumOf_19 : decode cX5_sumOf 19 = .ok (.iconst 3, 1) := by decide +kernel
theorem dX5_sumOf_20 : decode cX5_sumOf 20 = .ok (.irem, 1) := by decide +kernel
theorem dX5_sumOf_21 : decode cX5_sumOf 21 = .ok (.iload 4, 2) := by decide +kernel
theorem dX5_sumOf_23 : decode cX5_sumOf 23 = .ok (.iconst 3, 1) := by decide +kernel
theorem dX5_sumOf_24 : decode cX5_sumOf 24 = .ok (.irem, 1) := by decide +kernel
theorem dX5_sumOf_25 : decode cX5_sumOf 25 = .ok (.imul, 1) := by decide +kernel
theorem dX5_sumOf_26 : decode cX5_sumOf 26 = .ok (.iadd, 1) := by decide +kernel
theorem dX5_sumOf_27 : decode cX5_sumOf 27 = .ok (.istore_n 2, 1) := by decide +kernel
theorem dX5_sumOf_28 : decode cX5_sumOf 28 = .ok (.iload_n 3, 1) := by decide +kernel
theorem dX5_sumOf_29 : decode cX5_sumOf 29 = .ok (.iconst 3, 1) := by decide +kernel
theorem dX5_sumOf_30 : decode cX5_sumOf 30 = .ok (.idiv, 1) := by decide +kernel
theorem dX5_sumOf_31 : decode cX5_sumOf 31 = .ok (.istore_n 3, 1) := by decide +kernel
theorem dX5_sumOf_32 : decode cX5_sumOf 32 = .ok (.iload 4, 2) := by decide +kernel
theorem dX5_sumOf_34 : decode cX5_sumOf 34 = .ok (.iconst 3, 1) := by decide +kernel
theorem dX5_sumOf_35 : decode cX5_sumOf 35 = .ok (.idiv, 1) := by decide +kernel
theorem dX5_sumOf_36 : decode cX5_sumOf 36 = .ok (.istore 4, 2) := by decide +kernel
theorem dX5_sumOf_38 : decode cX5_sumOf 38 = .ok (.iinc 5 1, 3) := by decide +kernel
theorem dX5_sumOf_41 : decode cX5_sumOf 41 = .ok (.goto (-31), 3) := by decide +kernel
theorem dX5_sumOf_44 : decode cX5_sumOf 44 = .ok (.iload_n 2, 1) := by decide +kernel
theorem dX5_sumOf_45 : decode cX5_sumOf 45 = .ok (.iconst 3, 1) := by decide +kernel
theorem dX5_sumOf_46 : decode cX5_sumOf 46 = .ok (.irem, 1) := by decide +kernel
theorem dX5_sumOf_47 : decode cX5_sumOf 47 = .ok (.ireturn, 1) := by decide +kernel
theorem dX5_power_0 : decode cX5_power 0 = .ok (.iconst 1, 1) := by decide +kernel
theorem dX5_power_1 : decode cX5_power 1 = .ok (.istore_n 1, 1) := by decide +kernel
theorem dX5_power_2 : decode cX5_power 2 = .ok (.iconst 0, 1) := by decide +kernel
theorem dX5_power_3 : decode cX5_power 3 = .ok (.istore_n 2, 1) := by decide +kernel
theorem dX5_power_4 : decode cX5_power 4 = .ok (.iload_n 2, 1) := by decide +kernel
theorem dX5_power_5 : decode cX5_power 5 = .ok (.iload_n 0, 1) := by decide +kernel
theorem dX5_power_6 : decode cX5_power 6 = .ok (.if_icmp .ge 19, 3) := by decide +kernel
theorem dX5_power_9 : decode cX5_power 9 = .ok (.iload_n 2, 1) := by decide +kernel
theorem dX5_power_10 : decode cX5_power 10 = .ok (.bipush 7, 2) := by decide +kernel
theorem dX5_power_12 : decode cX5_power 12 = .ok (.if_icmp .ge 13, 3) := by decide +kernel
theorem dX5_power_15 : decode cX5_power 15 = .ok (.iload_n 1, 1) := by decide +kernel
theorem dX5_power_16 : decode cX5_power 16 = .ok (.iconst 3, 1) := by decide +kernel
theorem dX5_power_17 : decode cX5_power 17 = .ok (.imul, 1) := by decide +kernel
theorem dX5_power_18 : decode cX5_power 18 = .ok (.istore_n 1, 1) := by decide +kernel
theorem dX5_power_19 : decode cX5_power 19 = .ok (.iinc 2 1, 3) := by decide +kernel
theorem dX5_power_22 : decode cX5_power 22 = .ok (.goto (-18), 3) := by decide +kernel
theorem dX5_power_25 : decode cX5_power 25 = .ok (.iload_n 1, 1) := by decide +kernel
theorem dX5_power_26 : decode cX5_power 26 = .ok (.ireturn, 1) := by decide +kernel
theorem dX5_outIn_0 : decode cX5_outIn 0 = .ok (.iload_n 0, 1) := by decide +kernel
theorem dX5_outIn_1 : decode cX5_outIn 1 = .ok (.istore_n 2, 1) := by decide +kernel
theorem dX5_outIn_2 : decode cX5_outIn 2 = .ok (.iconst 0, 1) := by decide +kernel
theorem dX5_outIn_3 : decode cX5_outIn 3 = .ok (.istore_n 3, 1) := by decide +kernel
theorem dX5_outIn_4 : decode cX5_outIn 4 = .ok (.iload_n 3, 1) := by decide +kernel
theorem dX5_outIn_5 : decode cX5_outIn 5 = .ok (.iload_n 1, 1) := by decide +kernel
theorem dX5_outIn_6 : decode cX5_outIn 6 = .ok (.if_icmp .ge 19, 3) := by decide +kernel
theorem dX5_outIn_9 : decode cX5_outIn 9 = .ok (.iload_n 3, 1) := by decide +kernel
theorem dX5_outIn_10 : decode cX5_outIn 10 = .ok (.bipush 7, 2) := by decide +kernel
theorem dX5_outIn_12 : decode cX5_outIn 12 = .ok (.if_icmp .ge 13, 3) := by decide +kernel
theorem dX5_outIn_15 : decode cX5_outIn 15 = .ok (.iload_n 2, 1) := by decide +kernel
theorem dX5_outIn_16 : decode cX5_outIn 16 = .ok (.iconst 3, 1) := by decide +kernel
theorem dX5_outIn_17 : decode cX5_outIn 17 = .ok (.idiv, 1) := by decide +kernel
theorem dX5_outIn_18 : decode cX5_outIn 18 = .ok (.istore_n 2, 1) := by decide +kernel
theorem dX5_outIn_19 : decode cX5_outIn 19 = .ok (.iinc 3 1, 3) := by decide +kernel
theorem dX5_outIn_22 : decode cX5_outIn 22 = .ok (.goto (-18), 3) := by decide +kernel
theorem dX5_outIn_25 : decode cX5_outIn 25 = .ok (.iload_n 2, 1) := by decide +kernel
theorem dX5_outIn_26 : decode cX5_outIn 26 = .ok (.iconst 3, 1) := by decide +kernel
theorem dX5_outIn_27 : decode cX5_outIn 27 = .ok (.irem, 1) := by decide +kernel
theorem dX5_outIn_28 : decode cX5_outIn 28 = .ok (.ireturn, 1) := by decide +kernel
theorem dX5_moved_0 : decode cX5_moved 0 = .ok (.iload_n 0, 1) := by decide +kernel
theorem dX5_moved_1 : decode cX5_moved 1 = .ok (.iload_n 1, 1) := by decide +kernel
theorem dX5_moved_2 : decode cX5_moved 2 = .ok (.invokestatic 157, 3) := by decide +kernel
theorem dX5_moved_5 : decode cX5_moved 5 = .ok (.istore_n 3, 1) := by decide +kernel
theorem dX5_moved_6 : decode cX5_moved 6 = .ok (.iconst 0, 1) := by decide +kernel
theorem dX5_moved_7 : decode cX5_moved 7 = .ok (.iconst 2, 1) := by decide +kernel
theorem dX5_moved_8 : decode cX5_moved 8 = .ok (.iload_n 3, 1) := by decide +kernel
theorem dX5_moved_9 : decode cX5_moved 9 = .ok (.iload_n 2, 1) := by decide +kernel
theorem dX5_moved_10 : decode cX5_moved 10 = .ok (.iadd, 1) := by decide +kernel
theorem dX5_moved_11 : decode cX5_moved 11 = .ok (.invokestatic 304, 3) := by decide +kernel
theorem dX5_moved_14 : decode cX5_moved 14 = .ok (.invokestatic 202, 3) := by decide +kernel
theorem dX5_moved_17 : decode cX5_moved 17 = .ok (.istore 4, 2) := by decide +kernel
theorem dX5_moved_19 : decode cX5_moved 19 = .ok (.iload_n 0, 1) := by decide +kernel
theorem dX5_moved_20 : decode cX5_moved 20 = .ok (.iload 4, 2) := by decide +kernel
theorem dX5_moved_22 : decode cX5_moved 22 = .ok (.iload_n 3, 1) := by decide +kernel
theorem dX5_moved_23 : decode cX5_moved 23 = .ok (.isub, 1) := by decide +kernel
theorem dX5_moved_24 : decode cX5_moved 24 = .ok (.iload_n 1, 1) := by decide +kernel
theorem dX5_moved_25 : decode cX5_moved 25 = .ok (.invokestatic 307, 3) := by decide +kernel
theorem dX5_moved_28 : decode cX5_moved 28 = .ok (.imul, 1) := by decide +kernel
theorem dX5_moved_29 : decode cX5_moved 29 = .ok (.iadd, 1) := by decide +kernel
theorem dX5_moved_30 : decode cX5_moved 30 = .ok (.ireturn, 1) := by decide +kernel
theorem dX5_drawersOut_0 : decode cX5_drawersOut 0 = .ok (.iconst 0, 1) := by decide +kernel
theorem dX5_drawersOut_1 : decode cX5_drawersOut 1 = .ok (.istore_n 2, 1) := by decide +kernel
theorem dX5_drawersOut_2 : decode cX5_drawersOut 2 = .ok (.iload_n 0, 1) := by decide +kernel
theorem dX5_drawersOut_3 : decode cX5_drawersOut 3 = .ok (.istore_n 3, 1) := by decide +kernel
theorem dX5_drawersOut_4 : decode cX5_drawersOut 4 = .ok (.iconst 0, 1) := by decide +kernel
theorem dX5_drawersOut_5 : decode cX5_drawersOut 5 = .ok (.istore 4, 2) := by decide +kernel
theorem dX5_drawersOut_7 : decode cX5_drawersOut 7 = .ok (.iload 4, 2) := by decide +kernel
theorem dX5_drawersOut_9 : decode cX5_drawersOut 9 = .ok (.bipush 7, 2) := by decide +kernel
theorem dX5_drawersOut_11 : decode cX5_drawersOut 11 = .ok (.if_icmp .ge 27, 3) := by decide +kernel
theorem dX5_drawersOut_14 : decode cX5_drawersOut 14 = .ok (.iload_n 3, 1) := by decide +kernel
theorem dX5_drawersOut_15 : decode cX5_drawersOut 15 = .ok (.iconst 3, 1) := by decide +kernel
theorem dX5_drawersOut_16 : decode cX5_drawersOut 16 = .ok (.irem, 1) := by decide +kernel
theorem dX5_drawersOut_17 : decode cX5_drawersOut 17 = .ok (.iload_n 1, 1) := by decide +kernel
theorem dX5_drawersOut_18 : decode cX5_drawersOut 18 = .ok (.if_icmp .ne 10, 3) := by decide +kernel
theorem dX5_drawersOut_21 : decode cX5_drawersOut 21 = .ok (.iload_n 2, 1) := by decide +kernel
theorem dX5_drawersOut_22 : decode cX5_drawersOut 22 = .ok (.iconst 1, 1) := by decide +kernel
theorem dX5_drawersOut_23 : decode cX5_drawersOut 23 = .ok (.iload 4, 2) := by decide +kernel
theorem dX5_drawersOut_25 : decode cX5_drawersOut 25 = .ok (.ishl, 1) := by decide +kernel
theorem dX5_drawersOut_26 : decode cX5_drawersOut 26 = .ok (.ior, 1) := by decide +kernel
theorem dX5_drawersOut_27 : decode cX5_drawersOut 27 = .ok (.istore_n 2, 1) := by decide +kernel
theorem dX5_drawersOut_28 : decode cX5_drawersOut 28 = .ok (.iload_n 3, 1) := by decide +kernel
theorem dX5_drawersOut_29 : decode cX5_drawersOut 29 = .ok (.iconst 3, 1) := by decide +kernel
theorem dX5_drawersOut_30 : decode cX5_drawersOut 30 = .ok (.idiv, 1) := by decide +kernel
theorem dX5_drawersOut_31 : decode cX5_drawersOut 31 = .ok (.istore_n 3, 1) := by decide +kernel
theorem dX5_drawersOut_32 : decode cX5_drawersOut 32 = .ok (.iinc 4 1, 3) := by decide +kernel
theorem dX5_drawersOut_35 : decode cX5_drawersOut 35 = .ok (.goto (-28), 3) := by decide +kernel
theorem dX5_drawersOut_38 : decode cX5_drawersOut 38 = .ok (.iload_n 2, 1) := by decide +kernel
theorem dX5_drawersOut_39 : decode cX5_drawersOut 39 = .ok (.ireturn, 1) := by decide +kernel
theorem dX5_beside_0 : decode cX5_beside 0 = .ok (.iload_n 0, 1) := by decide +kernel
theorem dX5_beside_1 : decode cX5_beside 1 = .ok (.iconst 1, 1) := by decide +kernel
theorem dX5_beside_2 : decode cX5_beside 2 = .ok (.ishl, 1) := by decide +kernel
theorem dX5_beside_3 : decode cX5_beside 3 = .ok (.iload_n 0, 1) := by decide +kernel
theorem dX5_beside_4 : decode cX5_beside 4 = .ok (.iconst 1, 1) := by decide +kernel
theorem dX5_beside_5 : decode cX5_beside 5 = .ok (.ishr, 1) := by decide +kernel
theorem dX5_beside_6 : decode cX5_beside 6 = .ok (.ior, 1) := by decide +kernel
theorem dX5_beside_7 : decode cX5_beside 7 = .ok (.ireturn, 1) := by decide +kernel
theorem dX5_isOpenBeside_0 : decode cX5_isOpenBeside 0 = .ok (.iconst 1, 1) := by decide +kernel
theorem dX5_isOpenBeside_1 : decode cX5_isOpenBeside 1 = .ok (.iload_n 1, 1) := by decide +kernel
theorem dX5_isOpenBeside_2 : decode cX5_isOpenBeside 2 = .ok (.ishl, 1) := by decide +kernel
theorem dX5_isOpenBeside_3 : decode cX5_isOpenBeside 3 = .ok (.invokestatic 310, 3) := by decide +kernel
theorem dX5_isOpenBeside_6 : decode cX5_isOpenBeside 6 = .ok (.iload_n 0, 1) := by decide +kernel
theorem dX5_isOpenBeside_7 : decode cX5_isOpenBeside 7 = .ok (.iconst 2, 1) := by decide +kernel
theorem dX5_isOpenBeside_8 : decode cX5_isOpenBeside 8 = .ok (.invokestatic 313, 3) := by decide +kernel
theorem dX5_isOpenBeside_11 : decode cX5_isOpenBeside 11 = .ok (.iand, 1) := by decide +kernel
theorem dX5_isOpenBeside_12 : decode cX5_isOpenBeside 12 = .ok (.ifCond .eq 7, 3) := by decide +kernel
theorem dX5_isOpenBeside_15 : decode cX5_isOpenBeside 15 = .ok (.iconst 1, 1) := by decide +kernel
theorem dX5_isOpenBeside_16 : decode cX5_isOpenBeside 16 = .ok (.goto 4, 3) := by decide +kernel
theorem dX5_isOpenBeside_19 : decode cX5_isOpenBeside 19 = .ok (.iconst 0, 1) := by decide +kernel
theorem dX5_isOpenBeside_20 : decode cX5_isOpenBeside 20 = .ok (.ireturn, 1) := by decide +kernel
end
section
theorem dX6_in_0 : decode cX6_in 0 = .ok (.lload_n 0, 1) := by decide +kernel
theorem dX6_in_1 : decode cX6_in 1 = .ok (.lload_n 2, 1) := by decide +kernel
theorem dX6_in_2 : decode cX6_in 2 = .ok (.lcmp, 1) := by decide +kernel
theorem dX6_in_3 : decode cX6_in 3 = .ok (.ifCond .lt 14, 3) := by decide +kernel
theorem dX6_in_6 : decode cX6_in 6 = .ok (.lload_n 0, 1) := by decide +kernel
theorem dX6_in_7 : decode cX6_in 7 = .ok (.lload 4, 2) := by decide +kernel
theorem dX6_in_9 : decode cX6_in 9 = .ok (.lcmp, 1) := by decide +kernel
theorem dX6_in_10 : decode cX6_in 10 = .ok (.ifCond .gt 7, 3) := by decide +kernel
theorem dX6_in_13 : decode cX6_in 13 = .ok (.iconst 1, 1) := by decide +kernel
theorem dX6_in_14 : decode cX6_in 14 = .ok (.goto 4, 3) := by decide +kernel
theorem dX6_in_17 : decode cX6_in 17 = .ok (.iconst 0, 1) := by decide +kernel
theorem dX6_in_18 : decode cX6_in 18 = .ok (.ireturn, 1) := by decide +kernel
theorem dX6_init_0 : decode cX6_init 0 = .ok (.aload_n 0, 1) := by decide +kernel
theorem dX6_init_1 : decode cX6_init 1 = .ok (.invokespecial 1, 3) := by decide +kernel
theorem dX6_init_4 : decode cX6_init 4 = .ok (.aload_n 0, 1) := by decide +kernel
theorem dX6_init_5 : decode cX6_init 5 = .ok (.bipush 98, 2) := by decide +kernel
theorem dX6_init_7 : decode cX6_init 7 = .ok (.newarray .int, 2) := by decide +kernel
theorem dX6_init_9 : decode cX6_init 9 = .ok (.putfield 7, 3) := by decide +kernel
theorem dX6_init_12 : decode cX6_init 12 = .ok (.aload_n 0, 1) := by decide +kernel
theorem dX6_init_13 : decode cX6_init 13 = .ok (.sipush 196, 3) := by decide +kernel
theorem dX6_init_16 : decode cX6_init 16 = .ok (.newarray .int, 2) := by decide +kernel
theorem dX6_init_18 : decode cX6_init 18 = .ok (.putfield 13, 3) := by decide +kernel
theorem dX6_init_21 : decode cX6_init 21 = .ok (.aload_n 0, 1) := by decide +kernel
theorem dX6_init_22 : decode cX6_init 22 = .ok (.iconst 2, 1) := by decide +kernel
theorem dX6_init_23 : decode cX6_init 23 = .ok (.newarray .boolean, 2) := by decide +kernel
theorem dX6_init_25 : decode cX6_init 25 = .ok (.putfield 16, 3) := by decide +kernel
theorem dX6_init_28 : decode cX6_init 28 = .ok (.aload_n 0, 1) := by decide +kernel
theorem dX6_init_29 : decode cX6_init 29 = .ok (.bipush 98, 2) := by decide +kernel
theorem dX6_init_31 : decode cX6_init 31 = .ok (.newarray .int, 2) := by decide +kernel
theorem dX6_init_33 : decode cX6_init 33 = .ok (.putfield 20, 3) := by decide +kernel
theorem dX6_init_36 : decode cX6_init 36 = .ok (.aload_n 0, 1) := by decide +kernel
theorem dX6_init_37 : decode cX6_init 37 = .ok (.iconst 3, 1) := by decide +kernel
theorem dX6_init_38 : decode cX6_init 38 = .ok (.newarray .int, 2) := by decide +kernel
theorem dX6_init_40 : decode cX6_init 40 = .ok (.putfield 23, 3) := by decide +kernel
theorem dX6_init_43 : decode cX6_init 43 = .ok (.aload_n 0, 1) := by decide +kernel
theorem dX6_init_44 : decode cX6_init 44 = .ok (.sipush 200, 3) := by decide +kernel
theorem dX6_init_47 : decode cX6_init 47 = .ok (.newarray .int, 2) := by decide +kernel
theorem dX6_init_49 : decode cX6_init 49 = .ok (.putfield 26, 3) := by decide +kernel
theorem dX6_init_52 : decode cX6_init 52 = .ok (.aload_n 0, 1) := by decide +kernel
theorem dX6_init_53 : decode cX6_init 53 = .ok (.sipush 250, 3) := by decide +kernel
theorem dX6_init_56 : decode cX6_init 56 = .ok (.newarray .int, 2) := by decide +kernel
theorem dX6_init_58 : decode cX6_init 58 = .ok (.putfield 29, 3) := by decide +kernel
theorem dX6_init_61 : decode cX6_init 61 = .ok (.aload_n 0, 1) := by decide +kernel
theorem dX6_init_62 : decode cX6_init 62 = .ok (.sipush 15309, 3) := by decide +kernel
theorem dX6_init_65 : decode cX6_init 65 = .ok (.newarray .int, 2) := by decide +kernel
theorem dX6_init_67 : decode cX6_init 67 = .ok (.putfield 32, 3) := by decide +kernel
theorem dX6_init_70 : decode cX6_init 70 = .ok (.aload_n 0, 1) := by decide +kernel
theorem dX6_init_71 : decode cX6_init 71 = .ok (.sipush 2187, 3) := by decide +kernel
theorem dX6_init_74 : decode cX6_init 74 = .ok (.newarray .int, 2) := by decide +kernel
theorem dX6_init_76 : decode cX6_init 76 = .ok (.putfield 35, 3) := by decide +kernel
theorem dX6_init_79 : decode cX6_init 79 = .ok (.aload_n 0, 1) := by decide +kernel
theorem dX6_init_80 : decode cX6_init 80 = .ok (.sipush 2187, 3) := by decide +kernel
theorem dX6_init_83 : decode cX6_init 83 = .ok (.newarray .boolean, 2) := by decide +kernel
theorem dX6_init_85 : decode cX6_init 85 = .ok (.putfield 38, 3) := by decide +kernel
theorem dX6_init_88 : decode cX6_init 88 = .ok (.aload_n 0, 1) := by decide +kernel
theorem dX6_init_89 : decode cX6_init 89 = .ok (.sipush 2187, 3) := by decide +kernel
theorem dX6_init_92 : decode cX6_init 92 = .ok (.newarray .int, 2) := by decide +kernel
theorem dX6_init_94 : decode cX6_init 94 = .ok (.putfield 41, 3) := by decide +kernel
theorem dX6_init_97 : decode cX6_init 97 = .ok (.aload_n 0, 1) := by decide +kernel
theorem dX6_init_98 : decode cX6_init 98 = .ok (.iconst 5, 1) := by decide +kernel
theorem dX6_init_99 : decode cX6_init 99 = .ok (.invokevirtual 44, 3) := by decide +kernel
theorem dX6_init_102 : decode cX6_init 102 = .ok (.return_, 1) := by decide +kernel
theorem dX6_begins_0 : decode cX6_begins 0 = .ok (.iconst 0, 1) := by decide +kernel
theorem dX6_begins_1 : decode cX6_begins 1 = .ok (.istore_n 2, 1) := by decide +kernel
theorem dX6_begins_2 : decode cX6_begins 2 = .ok (.iload_n 2, 1) := by decide +kernel
theorem dX6_begins_3 : decode cX6_begins 3 = .ok (.bipush 98, 2) := by decide +kernel
theorem dX6_begins_5 : decode cX6_begins 5 = .ok (.if_icmp .ge 16, 3) := by decide +kernel
theorem dX6_begins_8 : decode cX6_begins 8 = .ok (.aload_n 0, 1) := by decide +kernel
theorem dX6_begins_9 : decode cX6_begins 9 = .ok (.getfield 7, 3) := by decide +kernel
theorem dX6_begins_12 : decode cX6_begins 12 = .ok (.iload_n 2, 1) := by decide +kernel
theorem dX6_begins_13 : decode cX6_begins 13 = .ok (.iconst 0, 1) := by decide +kernel
theorem dX6_begins_14 : decode cX6_begins 14 = .ok (.iastore, 1) := by decide +kernel
theorem dX6_begins_15 : decode cX6_begins 15 = .ok (.iinc 2 1, 3) := by decide +kernel
theorem dX6_begins_18 : decode cX6_begins 18 = .ok (.goto (-16), 3) := by decide +kernel
theorem dX6_begins_21 : decode cX6_begins 21 = .ok (.aload_n 0, 1) := by decide +kernel
theorem dX6_begins_22 : decode cX6_begins 22 = .ok (.getfield 7, 3) := by decide +kernel
theorem dX6_begins_25 : decode cX6_begins 25 = .ok (.iconst 0, 1) := by decide +kernel
theorem dX6_begins_26 : decode cX6_begins 26 = .ok (.iload_n 1, 1) := by decide +kernel
theorem dX6_begins_27 : decode cX6_begins 27 = .ok (.iastore, 1) := by decide +kernel
theorem dX6_begins_28 : decode cX6_begins 28 = .ok (.iconst 0, 1) := by decide +kernel
theorem dX6_begins_29 : decode cX6_begins 29 = .ok (.istore_n 2, 1) := by decide +kernel
theorem dX6_begins_30 : decode cX6_begins 30 = .ok (.iload_n 2, 1) := by decide +kernel
theorem dX6_begins_31 : decode cX6_begins 31 = .ok (.bipush 7, 2) := by decide +kernel
theorem dX6_begins_33 : decode cX6_begins 33 = .ok (.if_icmp .ge 19, 3) := by decide +kernel
theorem dX6_begins_36 : decode cX6_begins 36 = .ok (.aload_n 0, 1) := by decide +kernel
theorem dX6_begins_37 : decode cX6_begins 37 = .ok (.getfield 7, 3) := by decide +kernel
theorem dX6_begins_40 : decode cX6_begins 40 = .ok (.bipush 9, 2) := by decide +kernel
theorem dX6_begins_42 : decode cX6_begins 42 = .ok (.iload_n 2, 1) := by decide +kernel
theorem dX6_begins_43 : decode cX6_begins 43 = .ok (.iadd, 1) := by decide +kernel
theorem dX6_begins_44 : decode cX6_begins 44 = .ok (.iload_n 2, 1) := by decide +kernel
theorem dX6_begins_45 : decode cX6_begins 45 = .ok (.iastore, 1) := by decide +kernel
theorem dX6_begins_46 : decode cX6_begins 46 = .ok (.iinc 2 1, 3) := by decide +kernel
theorem dX6_begins_49 : decode cX6_begins 49 = .ok (.goto (-19), 3) := by decide +kernel
theorem dX6_begins_52 : decode cX6_begins 52 = .ok (.return_, 1) := by decide +kernel
theorem dX6_refuses_0 : decode cX6_refuses 0 = .ok (.aload_n 0, 1) := by decide +kernel
theorem dX6_refuses_1 : decode cX6_refuses 1 = .ok (.getfield 23, 3) := by decide +kernel
theorem dX6_refuses_4 : decode cX6_refuses 4 = .ok (.iload_n 1, 1) := by decide +kernel
theorem dX6_refuses_5 : decode cX6_refuses 5 = .ok (.dup2, 1) := by decide +kernel
theorem dX6_refuses_6 : decode cX6_refuses 6 = .ok (.iaload, 1) := by decide +kernel
theorem dX6_refuses_7 : decode cX6_refuses 7 = .ok (.aload_n 0, 1) := by decide +kernel
theorem dX6_refuses_8 : decode cX6_refuses 8 = .ok (.getfield 48, 3) := by decide +kernel
theorem dX6_refuses_11 : decode cX6_refuses 11 = .ok (.ifCond .eq 7, 3) := by decide +kernel
theorem dX6_refuses_14 : decode cX6_refuses 14 = .ok (.iconst 0, 1) := by decide +kernel
theorem dX6_refuses_15 : decode cX6_refuses 15 = .ok (.goto 4, 3) := by decide +kernel
theorem dX6_refuses_18 : decode cX6_refuses 18 = .ok (.iconst 1, 1) := by decide +kernel
theorem dX6_refuses_19 : decode cX6_refuses 19 = .ok (.iadd, 1) := by decide +kernel
theorem dX6_refuses_20 : decode cX6_refuses 20 = .ok (.iastore, 1) := by decide +kernel
theorem dX6_refuses_21 : decode cX6_refuses 21 = .ok (.iload_n 2, 1) := by decide +kernel
theorem dX6_refuses_22 : decode cX6_refuses 22 = .ok (.ireturn, 1) := by decide +kernel
theorem dX6_bad_0 : decode cX6_bad 0 = .ok (.aload_n 0, 1) := by decide +kernel
theorem dX6_bad_1 : decode cX6_bad 1 = .ok (.iconst 0, 1) := by decide +kernel
theorem dX6_bad_2 : decode cX6_bad 2 = .ok (.bipush (-2), 2) := by decide +kernel
theorem dX6_bad_4 : decode cX6_bad 4 = .ok (.invokevirtual 52, 3) := by decide +kernel
theorem dX6_bad_7 : decode cX6_bad 7 = .ok (.ireturn, 1) := by decide +kernel
theorem dX6_no_0 : decode cX6_no 0 = .ok (.aload_n 0, 1) := by decide +kernel
theorem dX6_no_1 : decode cX6_no 1 = .ok (.iconst 1, 1) := by decide +kernel
theorem dX6_no_2 : decode cX6_no 2 = .ok (.bipush (-3), 2) := by decide +kernel
theorem dX6_no_4 : decode cX6_no 4 = .ok (.invokevirtual 52, 3) := by decide +kernel
theorem dX6_no_7 : decode cX6_no 7 = .ok (.ireturn, 1) := by decide +kernel
theorem dX6_full_0 : decode cX6_full 0 = .ok (.aload_n 0, 1) := by decide +kernel
theorem dX6_full_1 : decode cX6_full 1 = .ok (.iconst 2, 1) := by decide +kernel
theorem dX6_full_2 : decode cX6_full 2 = .ok (.bipush (-4), 2) := by decide +kernel
theorem dX6_full_4 : decode cX6_full 4 = .ok (.invokevirtual 52, 3) := by decide +kernel
theorem dX6_full_7 : decode cX6_full 7 = .ok (.ireturn, 1) := by decide +kernel
theorem dX6_isDrawer_0 : decode cX6_isDrawer 0 = .ok (.iload_n 1, 1) := by decide +kernel
theorem dX6_isDrawer_1 : decode cX6_isDrawer 1 = .ok (.i2l, 1) := by decide +kernel
theorem dX6_isDrawer_2 : decode cX6_isDrawer 2 = .ok (.lconst 0, 1) := by decide +kernel
theorem dX6_isDrawer_3 : decode cX6_isDrawer 3 = .ok (.aload_n 0, 1) := by decide +kernel
theorem dX6_isDrawer_4 : decode cX6_isDrawer 4 = .ok (.getfield 7, 3) := by decide +kernel
theorem dX6_isDrawer_7 : decode cX6_isDrawer 7 = .ok (.iconst 0, 1) := by decide +kernel
theorem dX6_isDrawer_8 : decode cX6_isDrawer 8 = .ok (.iaload, 1) := by decide +kernel
theorem dX6_isDrawer_9 : decode cX6_isDrawer 9 = .ok (.iconst 1, 1) := by decide +kernel
theorem dX6_isDrawer_10 : decode cX6_isDrawer 10 = .ok (.isub, 1) := by decide +kernel
theorem dX6_isDrawer_11 : decode cX6_isDrawer 11 = .ok (.i2l, 1) := by decide +kernel
theorem dX6_isDrawer_12 : decode cX6_isDrawer 12 = .ok (.invokestatic 56, 3) := by decide +kernel
theorem dX6_isDrawer_15 : decode cX6_isDrawer 15 = .ok (.ireturn, 1) := by decide +kernel
theorem dX6_power_0 : decode cX6_power 0 = .ok (.iconst 1, 1) := by decide +kernel
theorem dX6_power_1 : decode cX6_power 1 = .ok (.istore_n 1, 1) := by decide +kernel
theorem dX6_power_2 : decode cX6_power 2 = .ok (.iconst 0, 1) := by decide +kernel
theorem dX6_power_3 : decode cX6_power 3 = .ok (.istore_n 2, 1) := by decide +kernel
theorem dX6_power_4 : decode cX6_power 4 = .ok (.iload_n 2, 1) := by decide +kernel
theorem dX6_power_5 : decode cX6_power 5 = .ok (.iload_n 0, 1) := by decide +kernel
theorem dX6_power_6 : decode cX6_power 6 = .ok (.if_icmp .ge 13, 3) := by decide +kernel
theorem dX6_power_9 : decode cX6_power 9 = .ok (.iload_n 1, 1) := by decide +kernel
theorem dX6_power_10 : decode cX6_power 10 = .ok (.iconst 3, 1) := by decide +kernel
theorem dX6_power_11 : decode cX6_power 11 = .ok (.imul, 1) := by decide +kernel
theorem dX6_power_12 : decode cX6_power 12 = .ok (.istore_n 1, 1) := by decide +kernel
theorem dX6_power_13 : decode cX6_power 13 = .ok (.iinc 2 1, 3) := by decide +kernel
theorem dX6_power_16 : decode cX6_power 16 = .ok (.goto (-12), 3) := by decide +kernel
theorem dX6_power_19 : decode cX6_power 19 = .ok (.iload_n 1, 1) := by decide +kernel
theorem dX6_power_20 : decode cX6_power 20 = .ok (.ireturn, 1) := by decide +kernel
theorem dX6_states_0 : decode cX6_states 0 = .ok (.aload_n 0, 1) := by decide +kernel
theorem dX6_states_1 : decode cX6_states 1 = .ok (.getfield 7, 3) := by decide +kernel
theorem dX6_states_4 : decode cX6_states 4 = .ok (.iconst 0, 1) := by decide +kernel
theorem dX6_states_5 : decode cX6_states 5 = .ok (.iaload, 1) := by decide +kernel
theorem dX6_states_6 : decode cX6_states 6 = .ok (.invokestatic 60, 3) := by decide +kernel
theorem dX6_states_9 : decode cX6_states 9 = .ok (.ireturn, 1) := by decide +kernel
theorem dX6_outIn_0 : decode cX6_outIn 0 = .ok (.iload_n 0, 1) := by decide +kernel
theorem dX6_outIn_1 : decode cX6_outIn 1 = .ok (.iload_n 1, 1) := by decide +kernel
theorem dX6_outIn_2 : decode cX6_outIn 2 = .ok (.invokestatic 60, 3) := by decide +kernel
theorem dX6_outIn_5 : decode cX6_outIn 5 = .ok (.idiv, 1) := by decide +kernel
theorem dX6_outIn_6 : decode cX6_outIn 6 = .ok (.iconst 3, 1) := by decide +kernel
theorem dX6_outIn_7 : decode cX6_outIn 7 = .ok (.irem, 1) := by decide +kernel
theorem dX6_outIn_8 : decode cX6_outIn 8 = .ok (.ireturn, 1) := by decide +kernel
theorem dX6_isBeside_0 : decode cX6_isBeside 0 = .ok (.iload_n 2, 1) := by decide +kernel
theorem dX6_isBeside_1 : decode cX6_isBeside 1 = .ok (.ifCond .le 14, 3) := by decide +kernel
theorem dX6_isBeside_4 : decode cX6_isBeside 4 = .ok (.iload_n 1, 1) := by decide +kernel
theorem dX6_isBeside_5 : decode cX6_isBeside 5 = .ok (.iload_n 2, 1) := by decide +kernel
theorem dX6_isBeside_6 : decode cX6_isBeside 6 = .ok (.iconst 1, 1) := by decide +kernel
theorem dX6_isBeside_7 : decode cX6_isBeside 7 = .ok (.isub, 1) := by decide +kernel
theorem dX6_isBeside_8 : decode cX6_isBeside 8 = .ok (.invokestatic 64, 3) := by decide +kernel
theorem dX6_isBeside_11 : decode cX6_isBeside 11 = .ok (.iconst 2, 1) := by decide +kernel
theorem dX6_isBeside_12 : decode cX6_isBeside 12 = .ok (.if_icmp .eq 26, 3) := by decide +kernel
theorem dX6_isBeside_15 : decode cX6_isBeside 15 = .ok (.iload_n 2, 1) := by decide +kernel
theorem dX6_isBeside_16 : decode cX6_isBeside 16 = .ok (.iconst 1, 1) := by decide +kernel
theorem dX6_isBeside_17 : decode cX6_isBeside 17 = .ok (.iadd, 1) := by decide +kernel
theorem dX6_isBeside_18 : decode cX6_isBeside 18 = .ok (.aload_n 0, 1) := by decide +kernel
theorem dX6_isBeside_19 : decode cX6_isBeside 19 = .ok (.getfield 7, 3) := by decide +kernel
theorem dX6_isBeside_22 : decode cX6_isBeside 22 = .ok (.iconst 0, 1) := by decide +kernel
theorem dX6_isBeside_23 : decode cX6_isBeside 23 = .ok (.iaload, 1) := by decide +kernel
theorem dX6_isBeside_24 : decode cX6_isBeside 24 = .ok (.if_icmp .ge 18, 3) := by decide +kernel
theorem dX6_isBeside_27 : decode cX6_isBeside 27 = .ok (.iload_n 1, 1) := by decide +kernel
theorem dX6_isBeside_28 : decode cX6_isBeside 28 = .ok (.iload_n 2, 1) := by decide +kernel
theorem dX6_isBeside_29 : decode cX6_isBeside 29 = .ok (.iconst 1, 1) := by decide +kernel
theorem dX6_isBeside_30 : decode cX6_isBeside 30 = .ok (.iadd, 1) := by decide +kernel
theorem dX6_isBeside_31 : decode cX6_isBeside 31 = .ok (.invokestatic 64, 3) := by decide +kernel
theorem dX6_isBeside_34 : decode cX6_isBeside 34 = .ok (.iconst 2, 1) := by decide +kernel
theorem dX6_isBeside_35 : decode cX6_isBeside 35 = .ok (.if_icmp .ne 7, 3) := by decide +kernel
theorem dX6_isBeside_38 : decode cX6_isBeside 38 = .ok (.iconst 1, 1) := by decide +kernel
theorem dX6_isBeside_39 : decode cX6_isBeside 39 = .ok (.goto 4, 3) := by decide +kernel
theorem dX6_isBeside_42 : decode cX6_isBeside 42 = .ok (.iconst 0, 1) := by decide +kernel
theorem dX6_isBeside_43 : decode cX6_isBeside 43 = .ok (.ireturn, 1) := by decide +kernel
theorem dX6_amount_0 : decode cX6_amount 0 = .ok (.aload_n 0, 1) := by decide +kernel
theorem dX6_amount_1 : decode cX6_amount 1 = .ok (.getfield 7, 3) := by decide +kernel
theorem dX6_amount_4 : decode cX6_amount 4 = .ok (.bipush 16, 2) := by decide +kernel
theorem dX6_amount_6 : decode cX6_amount 6 = .ok (.iconst 4, 1) := by decide +kernel
theorem dX6_amount_7 : decode cX6_amount 7 = .ok (.iload_n 1, 1) := by decide +kernel
theorem dX6_amount_8 : decode cX6_amount 8 = .ok (.imul, 1) := by decide +kernel
theorem dX6_amount_9 : decode cX6_amount 9 = .ok (.iadd, 1) := by decide +kernel
theorem dX6_amount_10 : decode cX6_amount 10 = .ok (.iconst 2, 1) := by decide +kernel
theorem dX6_amount_11 : decode cX6_amount 11 = .ok (.iadd, 1) := by decide +kernel
theorem dX6_amount_12 : decode cX6_amount 12 = .ok (.iaload, 1) := by decide +kernel
theorem dX6_amount_13 : decode cX6_amount 13 = .ok (.istore 4, 2) := by decide +kernel
theorem dX6_amount_15 : decode cX6_amount 15 = .ok (.aload_n 0, 1) := by decide +kernel
theorem dX6_amount_16 : decode cX6_amount 16 = .ok (.getfield 7, 3) := by decide +kernel
theorem dX6_amount_19 : decode cX6_amount 19 = .ok (.bipush 16, 2) := by decide +kernel
theorem dX6_amount_21 : decode cX6_amount 21 = .ok (.iconst 4, 1) := by decide +kernel
theorem dX6_amount_22 : decode cX6_amount 22 = .ok (.iload_n 1, 1) := by decide +kernel
theorem dX6_amount_23 : decode cX6_amount 23 = .ok (.imul, 1) := by decide +kernel
theorem dX6_amount_24 : decode cX6_amount 24 = .ok (.iadd, 1) := by decide +kernel
theorem dX6_amount_25 : decode cX6_amount 25 = .ok (.iconst 3, 1) := by decide +kernel
theorem dX6_amount_26 : decode cX6_amount 26 = .ok (.iadd, 1) := by decide +kernel
theorem dX6_amount_27 : decode cX6_amount 27 = .ok (.iaload, 1) := by decide +kernel
theorem dX6_amount_28 : decode cX6_amount 28 = .ok (.istore 5, 2) := by decide +kernel
theorem dX6_amount_30 : decode cX6_amount 30 = .ok (.aload_n 0, 1) := by decide +kernel
theorem dX6_amount_31 : decode cX6_amount 31 = .ok (.getfield 7, 3) := by decide +kernel
theorem dX6_amount_34 : decode cX6_amount 34 = .ok (.bipush 16, 2) := by decide +kernel
theorem dX6_amount_36 : decode cX6_amount 36 = .ok (.iconst 4, 1) := by decide +kernel
theorem dX6_amount_37 : decode cX6_amount 37 = .ok (.iload_n 1, 1) := by decide +kernel
theorem dX6_amount_38 : decode cX6_amount 38 = .ok (.imul, 1) := by decide +kernel
theorem dX6_amount_39 : decode cX6_amount 39 = .ok (.iadd, 1) := by decide +kernel
theorem dX6_amount_40 : decode cX6_amount 40 = .ok (.iconst 1, 1) := by decide +kernel
theorem dX6_amount_41 : decode cX6_amount 41 = .ok (.iadd, 1) := by decide +kernel
theorem dX6_amount_42 : decode cX6_amount 42 = .ok (.iaload, 1) := by decide +kernel
theorem dX6_amount_43 : decode cX6_amount 43 = .ok (.istore 6, 2) := by decide +kernel
theorem dX6_amount_45 : decode cX6_amount 45 = .ok (.iload_n 3, 1) := by decide +kernel
theorem dX6_amount_46 : decode cX6_amount 46 = .ok (.ifCond .eq 8, 3) := by decide +kernel
theorem dX6_amount_49 : decode cX6_amount 49 = .ok (.iload 5, 2) := by decide +kernel
theorem dX6_amount_51 : decode cX6_amount 51 = .ok (.goto 6, 3) := by decide +kernel
theorem dX6_amount_54 : decode cX6_amount 54 = .ok (.iload 5, 2) := by decide +kernel
theorem dX6_amount_56 : decode cX6_amount 56 = .ok (.ineg, 1) := by decide +kernel
theorem dX6_amount_57 : decode cX6_amount 57 = .ok (.istore 7, 2) := by decide +kernel
theorem dX6_amount_59 : decode cX6_amount 59 = .ok (.iload 4, 2) := by decide +kernel
theorem dX6_amount_61 : decode cX6_amount 61 = .ok (.iconst 1, 1) := by decide +kernel
theorem dX6_amount_62 : decode cX6_amount 62 = .ok (.if_icmp .eq 9, 3) := by decide +kernel
theorem dX6_amount_65 : decode cX6_amount 65 = .ok (.iload 4, 2) := by decide +kernel
theorem dX6_amount_67 : decode cX6_amount 67 = .ok (.iconst 5, 1) := by decide +kernel
theorem dX6_amount_68 : decode cX6_amount 68 = .ok (.if_icmp .ne 42, 3) := by decide +kernel
theorem dX6_amount_71 : decode cX6_amount 71 = .ok (.iload 4, 2) := by decide +kernel
theorem dX6_amount_73 : decode cX6_amount 73 = .ok (.iconst 1, 1) := by decide +kernel
theorem dX6_amount_74 : decode cX6_amount 74 = .ok (.if_icmp .ne 8, 3) := by decide +kernel
theorem dX6_amount_77 : decode cX6_amount 77 = .ok (.iload 5, 2) := by decide +kernel
theorem dX6_amount_79 : decode cX6_amount 79 = .ok (.goto 13, 3) := by decide +kernel
theorem dX6_amount_82 : decode cX6_amount 82 = .ok (.iload 5, 2) := by decide +kernel
theorem dX6_amount_84 : decode cX6_amount 84 = .ok (.ifCond .le 7, 3) := by decide +kernel
theorem dX6_amount_87 : decode cX6_amount 87 = .ok (.iconst 1, 1) := by decide +kernel
theorem dX6_amount_88 : decode cX6_amount 88 = .ok (.goto 4, 3) := by decide +kernel
theorem dX6_amount_91 : decode cX6_amount 91 = .ok (.iconst (-1), 1) := by decide +kernel
theorem dX6_amount_92 : decode cX6_amount 92 = .ok (.istore 8, 2) := by decide +kernel
theorem dX6_amount_94 : decode cX6_amount 94 = .ok (.iload_n 2, 1) := by decide +kernel
theorem dX6_amount_95 : decode cX6_amount 95 = .ok (.iload 6, 2) := by decide +kernel
theorem dX6_amount_97 : decode cX6_amount 97 = .ok (.invokestatic 64, 3) := by decide +kernel
theorem dX6_amount_100 : decode cX6_amount 100 = .ok (.ifCond .ne 8, 3) := by decide +kernel
theorem dX6_amount_103 : decode cX6_amount 103 = .ok (.iload 8, 2) := by decide +kernel
theorem dX6_amount_105 : decode cX6_amount 105 = .ok (.goto 4, 3) := by decide +kernel
theorem dX6_amount_108 : decode cX6_amount 108 = .ok (.iconst 0, 1) := by decide +kernel
theorem dX6_amount_109 : decode cX6_amount 109 = .ok (.ireturn, 1) := by decide +kernel
theorem dX6_amount_110 : decode cX6_amount 110 = .ok (.iload 4, 2) := by decide +kernel
theorem dX6_amount_112 : decode cX6_amount 112 = .ok (.iconst 3, 1) := by decide +kernel
theorem dX6_amount_113 : decode cX6_amount 113 = .ok (.if_icmp .ne 20, 3) := by decide +kernel
theorem dX6_amount_116 : decode cX6_amount 116 = .ok (.aload_n 0, 1) := by decide +kernel
theorem dX6_amount_117 : decode cX6_amount 117 = .ok (.iload_n 2, 1) := by decide +kernel
theorem dX6_amount_118 : decode cX6_amount 118 = .ok (.iload 6, 2) := by decide +kernel
theorem dX6_amount_120 : decode cX6_amount 120 = .ok (.invokevirtual 67, 3) := by decide +kernel
theorem dX6_amount_123 : decode cX6_amount 123 = .ok (.ifCond .eq 7, 3) := by decide +kernel
theorem dX6_amount_126 : decode cX6_amount 126 = .ok (.iconst 0, 1) := by decide +kernel
theorem dX6_amount_127 : decode cX6_amount 127 = .ok (.goto 5, 3) := by decide +kernel
theorem dX6_amount_130 : decode cX6_amount 130 = .ok (.iload 5, 2) := by decide +kernel
theorem dX6_amount_132 : decode cX6_amount 132 = .ok (.ireturn, 1) := by decide +kernel
theorem dX6_amount_133 : decode cX6_amount 133 = .ok (.iload 4, 2) := by decide +kernel
theorem dX6_amount_135 : decode cX6_amount 135 = .ok (.iconst 2, 1) := by decide +kernel
theorem dX6_amount_136 : decode cX6_amount 136 = .ok (.if_icmp .ne 8, 3) := by decide +kernel
theorem dX6_amount_139 : decode cX6_amount 139 = .ok (.iload 7, 2) := by decide +kernel
theorem dX6_amount_141 : decode cX6_amount 141 = .ok (.goto 25, 3) := by decide +kernel
theorem dX6_amount_144 : decode cX6_amount 144 = .ok (.iload 4, 2) := by decide +kernel
theorem dX6_amount_146 : decode cX6_amount 146 = .ok (.iconst 4, 1) := by decide +kernel
theorem dX6_amount_147 : decode cX6_amount 147 = .ok (.if_icmp .ne 17, 3) := by decide +kernel
theorem dX6_amount_150 : decode cX6_amount 150 = .ok (.iload 7, 2) := by decide +kernel
theorem dX6_amount_152 : decode cX6_amount 152 = .ok (.ifCond .le 8, 3) := by decide +kernel
theorem dX6_amount_155 : decode cX6_amount 155 = .ok (.iload 7, 2) := by decide +kernel
theorem dX6_amount_157 : decode cX6_amount 157 = .ok (.goto 9, 3) := by decide +kernel
theorem dX6_amount_160 : decode cX6_amount 160 = .ok (.iconst 0, 1) := by decide +kernel
theorem dX6_amount_161 : decode cX6_amount 161 = .ok (.goto 5, 3) := by decide +kernel
theorem dX6_amount_164 : decode cX6_amount 164 = .ok (.iload 5, 2) := by decide +kernel
theorem dX6_amount_166 : decode cX6_amount 166 = .ok (.ireturn, 1) := by decide +kernel
theorem dX6_pulled_0 : decode cX6_pulled 0 = .ok (.aload_n 0, 1) := by decide +kernel
theorem dX6_pulled_1 : decode cX6_pulled 1 = .ok (.getfield 7, 3) := by decide +kernel
theorem dX6_pulled_4 : decode cX6_pulled 4 = .ok (.iconst 4, 1) := by decide +kernel
theorem dX6_pulled_5 : decode cX6_pulled 5 = .ok (.iaload, 1) := by decide +kernel
theorem dX6_pulled_6 : decode cX6_pulled 6 = .ok (.iload_n 2, 1) := by decide +kernel
theorem dX6_pulled_7 : decode cX6_pulled 7 = .ok (.ishr, 1) := by decide +kernel
theorem dX6_pulled_8 : decode cX6_pulled 8 = .ok (.iconst 1, 1) := by decide +kernel
theorem dX6_pulled_9 : decode cX6_pulled 9 = .ok (.iand, 1) := by decide +kernel
theorem dX6_pulled_10 : decode cX6_pulled 10 = .ok (.iconst 1, 1) := by decide +kernel
theorem dX6_pulled_11 : decode cX6_pulled 11 = .ok (.if_icmp .ne 14, 3) := by decide +kernel
theorem dX6_pulled_14 : decode cX6_pulled 14 = .ok (.aload_n 0, 1) := by decide +kernel
theorem dX6_pulled_15 : decode cX6_pulled 15 = .ok (.iload_n 1, 1) := by decide +kernel
theorem dX6_pulled_16 : decode cX6_pulled 16 = .ok (.iload_n 2, 1) := by decide +kernel
theorem dX6_pulled_17 : decode cX6_pulled 17 = .ok (.invokevirtual 67, 3) := by decide +kernel
theorem dX6_pulled_20 : decode cX6_pulled 20 = .ok (.ifCond .eq 5, 3) := by decide +kernel
theorem dX6_pulled_23 : decode cX6_pulled 23 = .ok (.iload_n 1, 1) := by decide +kernel
theorem dX6_pulled_24 : decode cX6_pulled 24 = .ok (.ireturn, 1) := by decide +kernel
theorem dX6_pulled_25 : decode cX6_pulled 25 = .ok (.iload_n 1, 1) := by decide +kernel
theorem dX6_pulled_26 : decode cX6_pulled 26 = .ok (.iload_n 2, 1) := by decide +kernel
theorem dX6_pulled_27 : decode cX6_pulled 27 = .ok (.invokestatic 64, 3) := by decide +kernel
theorem dX6_pulled_30 : decode cX6_pulled 30 = .ok (.iconst 2, 1) := by decide +kernel
theorem dX6_pulled_31 : decode cX6_pulled 31 = .ok (.if_icmp .ge 7, 3) := by decide +kernel
theorem dX6_pulled_34 : decode cX6_pulled 34 = .ok (.iconst 1, 1) := by decide +kernel
theorem dX6_pulled_35 : decode cX6_pulled 35 = .ok (.goto 4, 3) := by decide +kernel
theorem dX6_pulled_38 : decode cX6_pulled 38 = .ok (.iconst 0, 1) := by decide +kernel
theorem dX6_pulled_39 : decode cX6_pulled 39 = .ok (.istore 4, 2) := by decide +kernel
theorem dX6_pulled_41 : decode cX6_pulled 41 = .ok (.iload_n 1, 1) := by decide +kernel
theorem dX6_pulled_42 : decode cX6_pulled 42 = .ok (.iload 4, 2) := by decide +kernel
theorem dX6_pulled_44 : decode cX6_pulled 44 = .ok (.ifCond .eq 10, 3) := by decide +kernel
theorem dX6_pulled_47 : decode cX6_pulled 47 = .ok (.iload_n 2, 1) := by decide +kernel
theorem dX6_pulled_48 : decode cX6_pulled 48 = .ok (.invokestatic 60, 3) := by decide +kernel
theorem dX6_pulled_51 : decode cX6_pulled 51 = .ok (.goto 10, 3) := by decide +kernel
theorem dX6_pulled_54 : decode cX6_pulled 54 = .ok (.bipush (-2), 2) := by decide +kernel
theorem dX6_pulled_56 : decode cX6_pulled 56 = .ok (.iload_n 2, 1) := by decide +kernel
theorem dX6_pulled_57 : decode cX6_pulled 57 = .ok (.invokestatic 60, 3) := by decide +kernel
theorem dX6_pulled_60 : decode cX6_pulled 60 = .ok (.imul, 1) := by decide +kernel
theorem dX6_pulled_61 : decode cX6_pulled 61 = .ok (.iadd, 1) := by decide +kernel
theorem dX6_pulled_62 : decode cX6_pulled 62 = .ok (.istore 5, 2) := by decide +kernel
theorem dX6_pulled_64 : decode cX6_pulled 64 = .ok (.iconst 0, 1) := by decide +kernel
theorem dX6_pulled_65 : decode cX6_pulled 65 = .ok (.istore 6, 2) := by decide +kernel
theorem dX6_pulled_67 : decode cX6_pulled 67 = .ok (.iload 6, 2) := by decide +kernel
theorem dX6_pulled_69 : decode cX6_pulled 69 = .ok (.aload_n 0, 1) := by decide +kernel
theorem dX6_pulled_70 : decode cX6_pulled 70 = .ok (.getfield 7, 3) := by decide +kernel
theorem dX6_pulled_73 : decode cX6_pulled 73 = .ok (.iconst 1, 1) := by decide +kernel
theorem dX6_pulled_74 : decode cX6_pulled 74 = .ok (.iaload, 1) := by decide +kernel
theorem dX6_pulled_75 : decode cX6_pulled 75 = .ok (.if_icmp .ge 114, 3) := by decide +kernel
theorem dX6_pulled_78 : decode cX6_pulled 78 = .ok (.iload_n 3, 1) := by decide +kernel
theorem dX6_pulled_79 : decode cX6_pulled 79 = .ok (.iload 6, 2) := by decide +kernel
theorem dX6_pulled_81 : decode cX6_pulled 81 = .ok (.ishr, 1) := by decide +kernel
theorem dX6_pulled_82 : decode cX6_pulled 82 = .ok (.iconst 1, 1) := by decide +kernel
theorem dX6_pulled_83 : decode cX6_pulled 83 = .ok (.iand, 1) := by decide +kernel
theorem dX6_pulled_84 : decode cX6_pulled 84 = .ok (.iconst 1, 1) := by decide +kernel
theorem dX6_pulled_85 : decode cX6_pulled 85 = .ok (.if_icmp .ne 98, 3) := by decide +kernel
theorem dX6_pulled_88 : decode cX6_pulled 88 = .ok (.aload_n 0, 1) := by decide +kernel
theorem dX6_pulled_89 : decode cX6_pulled 89 = .ok (.getfield 7, 3) := by decide +kernel
theorem dX6_pulled_92 : decode cX6_pulled 92 = .ok (.bipush 16, 2) := by decide +kernel
theorem dX6_pulled_94 : decode cX6_pulled 94 = .ok (.iconst 4, 1) := by decide +kernel
theorem dX6_pulled_95 : decode cX6_pulled 95 = .ok (.iload 6, 2) := by decide +kernel
theorem dX6_pulled_97 : decode cX6_pulled 97 = .ok (.imul, 1) := by decide +kernel
theorem dX6_pulled_98 : decode cX6_pulled 98 = .ok (.iadd, 1) := by decide +kernel
theorem dX6_pulled_99 : decode cX6_pulled 99 = .ok (.iaload, 1) := by decide +kernel
theorem dX6_pulled_100 : decode cX6_pulled 100 = .ok (.iload_n 2, 1) := by decide +kernel
theorem dX6_pulled_101 : decode cX6_pulled 101 = .ok (.if_icmp .ne 82, 3) := by decide +kernel
theorem dX6_pulled_104 : decode cX6_pulled 104 = .ok (.aload_n 0, 1) := by decide +kernel
theorem dX6_pulled_105 : decode cX6_pulled 105 = .ok (.getfield 7, 3) := by decide +kernel
theorem dX6_pulled_108 : decode cX6_pulled 108 = .ok (.bipush 16, 2) := by decide +kernel
theorem dX6_pulled_110 : decode cX6_pulled 110 = .ok (.iconst 4, 1) := by decide +kernel
theorem dX6_pulled_111 : decode cX6_pulled 111 = .ok (.iload 6, 2) := by decide +kernel
theorem dX6_pulled_113 : decode cX6_pulled 113 = .ok (.imul, 1) := by decide +kernel
theorem dX6_pulled_114 : decode cX6_pulled 114 = .ok (.iadd, 1) := by decide +kernel
theorem dX6_pulled_115 : decode cX6_pulled 115 = .ok (.iconst 1, 1) := by decide +kernel
theorem dX6_pulled_116 : decode cX6_pulled 116 = .ok (.iadd, 1) := by decide +kernel
theorem dX6_pulled_117 : decode cX6_pulled 117 = .ok (.iaload, 1) := by decide +kernel
theorem dX6_pulled_118 : decode cX6_pulled 118 = .ok (.istore 7, 2) := by decide +kernel
theorem dX6_pulled_120 : decode cX6_pulled 120 = .ok (.iload 5, 2) := by decide +kernel
theorem dX6_pulled_122 : decode cX6_pulled 122 = .ok (.iload 7, 2) := by decide +kernel
theorem dX6_pulled_124 : decode cX6_pulled 124 = .ok (.invokestatic 64, 3) := by decide +kernel
theorem dX6_pulled_127 : decode cX6_pulled 127 = .ok (.istore 8, 2) := by decide +kernel
theorem dX6_pulled_129 : decode cX6_pulled 129 = .ok (.iload 8, 2) := by decide +kernel
theorem dX6_pulled_131 : decode cX6_pulled 131 = .ok (.aload_n 0, 1) := by decide +kernel
theorem dX6_pulled_132 : decode cX6_pulled 132 = .ok (.iload 6, 2) := by decide +kernel
theorem dX6_pulled_134 : decode cX6_pulled 134 = .ok (.iload 5, 2) := by decide +kernel
theorem dX6_pulled_136 : decode cX6_pulled 136 = .ok (.iload 4, 2) := by decide +kernel
theorem dX6_pulled_138 : decode cX6_pulled 138 = .ok (.invokevirtual 71, 3) := by decide +kernel
theorem dX6_pulled_141 : decode cX6_pulled 141 = .ok (.iadd, 1) := by decide +kernel
theorem dX6_pulled_142 : decode cX6_pulled 142 = .ok (.istore 9, 2) := by decide +kernel
theorem dX6_pulled_144 : decode cX6_pulled 144 = .ok (.iload 9, 2) := by decide +kernel
theorem dX6_pulled_146 : decode cX6_pulled 146 = .ok (.ifCond .ge 7, 3) := by decide +kernel
theorem dX6_pulled_149 : decode cX6_pulled 149 = .ok (.iconst 0, 1) := by decide +kernel
theorem dX6_pulled_150 : decode cX6_pulled 150 = .ok (.goto 15, 3) := by decide +kernel
theorem dX6_pulled_153 : decode cX6_pulled 153 = .ok (.iload 9, 2) := by decide +kernel
theorem dX6_pulled_155 : decode cX6_pulled 155 = .ok (.iconst 2, 1) := by decide +kernel
theorem dX6_pulled_156 : decode cX6_pulled 156 = .ok (.if_icmp .le 7, 3) := by decide +kernel
theorem dX6_pulled_159 : decode cX6_pulled 159 = .ok (.iconst 2, 1) := by decide +kernel
theorem dX6_pulled_160 : decode cX6_pulled 160 = .ok (.goto 5, 3) := by decide +kernel
theorem dX6_pulled_163 : decode cX6_pulled 163 = .ok (.iload 9, 2) := by decide +kernel
theorem dX6_pulled_165 : decode cX6_pulled 165 = .ok (.istore 9, 2) := by decide +kernel
theorem dX6_pulled_167 : decode cX6_pulled 167 = .ok (.iload 5, 2) := by decide +kernel
theorem dX6_pulled_169 : decode cX6_pulled 169 = .ok (.iload 9, 2) := by decide +kernel
theorem dX6_pulled_171 : decode cX6_pulled 171 = .ok (.iload 8, 2) := by decide +kernel
theorem dX6_pulled_173 : decode cX6_pulled 173 = .ok (.isub, 1) := by decide +kernel
theorem dX6_pulled_174 : decode cX6_pulled 174 = .ok (.iload 7, 2) := by decide +kernel
theorem dX6_pulled_176 : decode cX6_pulled 176 = .ok (.invokestatic 60, 3) := by decide +kernel
theorem dX6_pulled_179 : decode cX6_pulled 179 = .ok (.imul, 1) := by decide +kernel
theorem dX6_pulled_180 : decode cX6_pulled 180 = .ok (.iadd, 1) := by decide +kernel
theorem dX6_pulled_181 : decode cX6_pulled 181 = .ok (.istore 5, 2) := by decide +kernel
theorem dX6_pulled_183 : decode cX6_pulled 183 = .ok (.iinc 6 1, 3) := by decide +kernel
theorem dX6_pulled_186 : decode cX6_pulled 186 = .ok (.goto (-119), 3) := by decide +kernel
theorem dX6_pulled_189 : decode cX6_pulled 189 = .ok (.iload 5, 2) := by decide +kernel
theorem dX6_pulled_191 : decode cX6_pulled 191 = .ok (.ireturn, 1) := by decide +kernel
theorem dX6_allCords_0 : decode cX6_allCords 0 = .ok (.iconst 1, 1) := by decide +kernel
theorem dX6_allCords_1 : decode cX6_allCords 1 = .ok (.aload_n 0, 1) := by decide +kernel
theorem dX6_allCords_2 : decode cX6_allCords 2 = .ok (.getfield 7, 3) := by decide +kernel
theorem dX6_allCords_5 : decode cX6_allCords 5 = .ok (.iconst 1, 1) := by decide +kernel
theorem dX6_allCords_6 : decode cX6_allCords 6 = .ok (.iaload, 1) := by decide +kernel
theorem dX6_allCords_7 : decode cX6_allCords 7 = .ok (.ishl, 1) := by decide +kernel
theorem dX6_allCords_8 : decode cX6_allCords 8 = .ok (.iconst 1, 1) := by decide +kernel
theorem dX6_allCords_9 : decode cX6_allCords 9 = .ok (.isub, 1) := by decide +kernel
theorem dX6_allCords_10 : decode cX6_allCords 10 = .ok (.ireturn, 1) := by decide +kernel
theorem dX6_wall_0 : decode cX6_wall 0 = .ok (.iload_n 1, 1) := by decide +kernel
theorem dX6_wall_1 : decode cX6_wall 1 = .ok (.i2l, 1) := by decide +kernel
theorem dX6_wall_2 : decode cX6_wall 2 = .ok (.ldc2_w 75, 3) := by decide +kernel
theorem dX6_wall_5 : decode cX6_wall 5 = .ok (.ldc2_w 77, 3) := by decide +kernel
theorem dX6_wall_8 : decode cX6_wall 8 = .ok (.invokestatic 56, 3) := by decide +kernel
theorem dX6_wall_11 : decode cX6_wall 11 = .ok (.ifCond .ne 8, 3) := by decide +kernel
theorem dX6_wall_14 : decode cX6_wall 14 = .ok (.aload_n 0, 1) := by decide +kernel
theorem dX6_wall_15 : decode cX6_wall 15 = .ok (.invokevirtual 79, 3) := by decide +kernel
theorem dX6_wall_18 : decode cX6_wall 18 = .ok (.ireturn, 1) := by decide +kernel
theorem dX6_wall_19 : decode cX6_wall 19 = .ok (.aload_n 0, 1) := by decide +kernel
theorem dX6_wall_20 : decode cX6_wall 20 = .ok (.getfield 7, 3) := by decide +kernel
theorem dX6_wall_23 : decode cX6_wall 23 = .ok (.iconst 0, 1) := by decide +kernel
theorem dX6_wall_24 : decode cX6_wall 24 = .ok (.iaload, 1) := by decide +kernel
theorem dX6_wall_25 : decode cX6_wall 25 = .ok (.istore_n 2, 1) := by decide +kernel
theorem dX6_wall_26 : decode cX6_wall 26 = .ok (.aload_n 0, 1) := by decide +kernel
theorem dX6_wall_27 : decode cX6_wall 27 = .ok (.iload_n 1, 1) := by decide +kernel
theorem dX6_wall_28 : decode cX6_wall 28 = .ok (.invokevirtual 44, 3) := by decide +kernel
theorem dX6_wall_31 : decode cX6_wall 31 = .ok (.iload_n 2, 1) := by decide +kernel
theorem dX6_wall_32 : decode cX6_wall 32 = .ok (.ireturn, 1) := by decide +kernel
theorem dX6_ties_0 : decode cX6_ties 0 = .ok (.bipush 16, 2) := by decide +kernel
theorem dX6_ties_2 : decode cX6_ties 2 = .ok (.iconst 4, 1) := by decide +kernel
theorem dX6_ties_3 : decode cX6_ties 3 = .ok (.aload_n 0, 1) := by decide +kernel
theorem dX6_ties_4 : decode cX6_ties 4 = .ok (.getfield 7, 3) := by decide +kernel
theorem dX6_ties_7 : decode cX6_ties 7 = .ok (.iconst 1, 1) := by decide +kernel
theorem dX6_ties_8 : decode cX6_ties 8 = .ok (.iaload, 1) := by decide +kernel
theorem dX6_ties_9 : decode cX6_ties 9 = .ok (.imul, 1) := by decide +kernel
theorem dX6_ties_10 : decode cX6_ties 10 = .ok (.iadd, 1) := by decide +kernel
theorem dX6_ties_11 : decode cX6_ties 11 = .ok (.istore 5, 2) := by decide +kernel
theorem dX6_ties_13 : decode cX6_ties 13 = .ok (.aload_n 0, 1) := by decide +kernel
theorem dX6_ties_14 : decode cX6_ties 14 = .ok (.getfield 7, 3) := by decide +kernel
theorem dX6_ties_17 : decode cX6_ties 17 = .ok (.iload 5, 2) := by decide +kernel
theorem dX6_ties_19 : decode cX6_ties 19 = .ok (.iload_n 1, 1) := by decide +kernel
theorem dX6_ties_20 : decode cX6_ties 20 = .ok (.iastore, 1) := by decide +kernel
theorem dX6_ties_21 : decode cX6_ties 21 = .ok (.aload_n 0, 1) := by decide +kernel
theorem dX6_ties_22 : decode cX6_ties 22 = .ok (.getfield 7, 3) := by decide +kernel
theorem dX6_ties_25 : decode cX6_ties 25 = .ok (.iload 5, 2) := by decide +kernel
theorem dX6_ties_27 : decode cX6_ties 27 = .ok (.iconst 1, 1) := by decide +kernel
theorem dX6_ties_28 : decode cX6_ties 28 = .ok (.iadd, 1) := by decide +kernel
theorem dX6_ties_29 : decode cX6_ties 29 = .ok (.iload_n 2, 1) := by decide +kernel
theorem dX6_ties_30 : decode cX6_ties 30 = .ok (.iastore, 1) := by decide +kernel
theorem dX6_ties_31 : decode cX6_ties 31 = .ok (.aload_n 0, 1) := by decide +kernel
theorem dX6_ties_32 : decode cX6_ties 32 = .ok (.getfield 7, 3) := by decide +kernel
theorem dX6_ties_35 : decode cX6_ties 35 = .ok (.iload 5, 2) := by decide +kernel
theorem dX6_ties_37 : decode cX6_ties 37 = .ok (.iconst 2, 1) := by decide +kernel
theorem dX6_ties_38 : decode cX6_ties 38 = .ok (.iadd, 1) := by decide +kernel
theorem dX6_ties_39 : decode cX6_ties 39 = .ok (.iload_n 3, 1) := by decide +kernel
theorem dX6_ties_40 : decode cX6_ties 40 = .ok (.iastore, 1) := by decide +kernel
theorem dX6_ties_41 : decode cX6_ties 41 = .ok (.aload_n 0, 1) := by decide +kernel
theorem dX6_ties_42 : decode cX6_ties 42 = .ok (.getfield 7, 3) := by decide +kernel
theorem dX6_ties_45 : decode cX6_ties 45 = .ok (.iload 5, 2) := by decide +kernel
theorem dX6_ties_47 : decode cX6_ties 47 = .ok (.iconst 3, 1) := by decide +kernel
theorem dX6_ties_48 : decode cX6_ties 48 = .ok (.iadd, 1) := by decide +kernel
theorem dX6_ties_49 : decode cX6_ties 49 = .ok (.iload 4, 2) := by decide +kernel
theorem dX6_ties_51 : decode cX6_ties 51 = .ok (.iastore, 1) := by decide +kernel
theorem dX6_ties_52 : decode cX6_ties 52 = .ok (.aload_n 0, 1) := by decide +kernel
theorem dX6_ties_53 : decode cX6_ties 53 = .ok (.getfield 7, 3) := by decide +kernel
theorem dX6_ties_56 : decode cX6_ties 56 = .ok (.iconst 1, 1) := by decide +kernel
theorem dX6_ties_57 : decode cX6_ties 57 = .ok (.dup2, 1) := by decide +kernel
theorem dX6_ties_58 : decode cX6_ties 58 = .ok (.iaload, 1) := by decide +kernel
theorem dX6_ties_59 : decode cX6_ties 59 = .ok (.iconst 1, 1) := by decide +kernel
theorem dX6_ties_60 : decode cX6_ties 60 = .ok (.iadd, 1) := by decide +kernel
theorem dX6_ties_61 : decode cX6_ties 61 = .ok (.iastore, 1) := by decide +kernel
theorem dX6_ties_62 : decode cX6_ties 62 = .ok (.return_, 1) := by decide +kernel
theorem dX6_cord_0 : decode cX6_cord 0 = .ok (.aload_n 0, 1) := by decide +kernel
theorem dX6_cord_1 : decode cX6_cord 1 = .ok (.iload_n 1, 1) := by decide +kernel
theorem dX6_cord_2 : decode cX6_cord 2 = .ok (.invokevirtual 83, 3) := by decide +kernel
theorem dX6_cord_5 : decode cX6_cord 5 = .ok (.ifCond .eq 48, 3) := by decide +kernel
theorem dX6_cord_8 : decode cX6_cord 8 = .ok (.aload_n 0, 1) := by decide +kernel
theorem dX6_cord_9 : decode cX6_cord 9 = .ok (.iload_n 2, 1) := by decide +kernel
theorem dX6_cord_10 : decode cX6_cord 10 = .ok (.invokevirtual 83, 3) := by decide +kernel
theorem dX6_cord_13 : decode cX6_cord 13 = .ok (.ifCond .eq 40, 3) := by decide +kernel
theorem dX6_cord_16 : decode cX6_cord 16 = .ok (.iload_n 1, 1) := by decide +kernel
theorem dX6_cord_17 : decode cX6_cord 17 = .ok (.iload_n 2, 1) := by decide +kernel
theorem dX6_cord_18 : decode cX6_cord 18 = .ok (.if_icmp .eq 35, 3) := by decide +kernel
theorem dX6_cord_21 : decode cX6_cord 21 = .ok (.iload_n 3, 1) := by decide +kernel
theorem dX6_cord_22 : decode cX6_cord 22 = .ok (.i2l, 1) := by decide +kernel
theorem dX6_cord_23 : decode cX6_cord 23 = .ok (.lconst 0, 1) := by decide +kernel
theorem dX6_cord_24 : decode cX6_cord 24 = .ok (.ldc2_w 87, 3) := by decide +kernel
theorem dX6_cord_27 : decode cX6_cord 27 = .ok (.invokestatic 56, 3) := by decide +kernel
theorem dX6_cord_30 : decode cX6_cord 30 = .ok (.ifCond .eq 23, 3) := by decide +kernel
theorem dX6_cord_33 : decode cX6_cord 33 = .ok (.iload 4, 2) := by decide +kernel
theorem dX6_cord_35 : decode cX6_cord 35 = .ok (.i2l, 1) := by decide +kernel
theorem dX6_cord_36 : decode cX6_cord 36 = .ok (.ldc2_w 89, 3) := by decide +kernel
theorem dX6_cord_39 : decode cX6_cord 39 = .ok (.ldc2_w 75, 3) := by decide +kernel
theorem dX6_cord_42 : decode cX6_cord 42 = .ok (.invokestatic 56, 3) := by decide +kernel
theorem dX6_cord_45 : decode cX6_cord 45 = .ok (.ifCond .eq 8, 3) := by decide +kernel
theorem dX6_cord_48 : decode cX6_cord 48 = .ok (.iload 4, 2) := by decide +kernel
theorem dX6_cord_50 : decode cX6_cord 50 = .ok (.ifCond .ne 8, 3) := by decide +kernel
theorem dX6_cord_53 : decode cX6_cord 53 = .ok (.aload_n 0, 1) := by decide +kernel
theorem dX6_cord_54 : decode cX6_cord 54 = .ok (.invokevirtual 79, 3) := by decide +kernel
theorem dX6_cord_57 : decode cX6_cord 57 = .ok (.ireturn, 1) := by decide +kernel
theorem dX6_cord_58 : decode cX6_cord 58 = .ok (.aload_n 0, 1) := by decide +kernel
theorem dX6_cord_59 : decode cX6_cord 59 = .ok (.getfield 7, 3) := by decide +kernel
theorem dX6_cord_62 : decode cX6_cord 62 = .ok (.iconst 1, 1) := by decide +kernel
theorem dX6_cord_63 : decode cX6_cord 63 = .ok (.iaload, 1) := by decide +kernel
theorem dX6_cord_64 : decode cX6_cord 64 = .ok (.bipush 10, 2) := by decide +kernel
theorem dX6_cord_66 : decode cX6_cord 66 = .ok (.if_icmp .ne 8, 3) := by decide +kernel
theorem dX6_cord_69 : decode cX6_cord 69 = .ok (.aload_n 0, 1) := by decide +kernel
theorem dX6_cord_70 : decode cX6_cord 70 = .ok (.invokevirtual 91, 3) := by decide +kernel
theorem dX6_cord_73 : decode cX6_cord 73 = .ok (.ireturn, 1) := by decide +kernel
theorem dX6_cord_74 : decode cX6_cord 74 = .ok (.aload_n 0, 1) := by decide +kernel
theorem dX6_cord_75 : decode cX6_cord 75 = .ok (.iload_n 1, 1) := by decide +kernel
theorem dX6_cord_76 : decode cX6_cord 76 = .ok (.iload_n 2, 1) := by decide +kernel
theorem dX6_cord_77 : decode cX6_cord 77 = .ok (.iload_n 3, 1) := by decide +kernel
theorem dX6_cord_78 : decode cX6_cord 78 = .ok (.iload 4, 2) := by decide +kernel
theorem dX6_cord_80 : decode cX6_cord 80 = .ok (.invokevirtual 94, 3) := by decide +kernel
theorem dX6_cord_83 : decode cX6_cord 83 = .ok (.aload_n 0, 1) := by decide +kernel
theorem dX6_cord_84 : decode cX6_cord 84 = .ok (.getfield 7, 3) := by decide +kernel
theorem dX6_cord_87 : decode cX6_cord 87 = .ok (.iconst 1, 1) := by decide +kernel
theorem dX6_cord_88 : decode cX6_cord 88 = .ok (.iaload, 1) := by decide +kernel
theorem dX6_cord_89 : decode cX6_cord 89 = .ok (.iconst 1, 1) := by decide +kernel
theorem dX6_cord_90 : decode cX6_cord 90 = .ok (.isub, 1) := by decide +kernel
theorem dX6_cord_91 : decode cX6_cord 91 = .ok (.ireturn, 1) := by decide +kernel
theorem dX6_caught_0 : decode cX6_caught 0 = .ok (.aload_n 0, 1) := by decide +kernel
theorem dX6_caught_1 : decode cX6_caught 1 = .ok (.iload_n 1, 1) := by decide +kernel
theorem dX6_caught_2 : decode cX6_caught 2 = .ok (.invokevirtual 83, 3) := by decide +kernel
theorem dX6_caught_5 : decode cX6_caught 5 = .ok (.ifCond .ne 8, 3) := by decide +kernel
theorem dX6_caught_8 : decode cX6_caught 8 = .ok (.aload_n 0, 1) := by decide +kernel
theorem dX6_caught_9 : decode cX6_caught 9 = .ok (.invokevirtual 79, 3) := by decide +kernel
theorem dX6_caught_12 : decode cX6_caught 12 = .ok (.ireturn, 1) := by decide +kernel
theorem dX6_caught_13 : decode cX6_caught 13 = .ok (.aload_n 0, 1) := by decide +kernel
theorem dX6_caught_14 : decode cX6_caught 14 = .ok (.getfield 7, 3) := by decide +kernel
theorem dX6_caught_17 : decode cX6_caught 17 = .ok (.iconst 4, 1) := by decide +kernel
theorem dX6_caught_18 : decode cX6_caught 18 = .ok (.iaload, 1) := by decide +kernel
theorem dX6_caught_19 : decode cX6_caught 19 = .ok (.iload_n 1, 1) := by decide +kernel
theorem dX6_caught_20 : decode cX6_caught 20 = .ok (.ishr, 1) := by decide +kernel
theorem dX6_caught_21 : decode cX6_caught 21 = .ok (.iconst 1, 1) := by decide +kernel
theorem dX6_caught_22 : decode cX6_caught 22 = .ok (.iand, 1) := by decide +kernel
theorem dX6_caught_23 : decode cX6_caught 23 = .ok (.iconst 1, 1) := by decide +kernel
theorem dX6_caught_24 : decode cX6_caught 24 = .ok (.if_icmp .ne 7, 3) := by decide +kernel
theorem dX6_caught_27 : decode cX6_caught 27 = .ok (.iconst 1, 1) := by decide +kernel
theorem dX6_caught_28 : decode cX6_caught 28 = .ok (.goto 4, 3) := by decide +kernel
theorem dX6_caught_31 : decode cX6_caught 31 = .ok (.iconst 0, 1) := by decide +kernel
theorem dX6_caught_32 : decode cX6_caught 32 = .ok (.iload_n 2, 1) := by decide +kernel
theorem dX6_caught_33 : decode cX6_caught 33 = .ok (.if_icmp .ne 8, 3) := by decide +kernel
theorem dX6_caught_36 : decode cX6_caught 36 = .ok (.aload_n 0, 1) := by decide +kernel
theorem dX6_caught_37 : decode cX6_caught 37 = .ok (.invokevirtual 98, 3) := by decide +kernel
theorem dX6_caught_40 : decode cX6_caught 40 = .ok (.ireturn, 1) := by decide +kernel
theorem dX6_caught_41 : decode cX6_caught 41 = .ok (.aload_n 0, 1) := by decide +kernel
theorem dX6_caught_42 : decode cX6_caught 42 = .ok (.getfield 7, 3) := by decide +kernel
theorem dX6_caught_45 : decode cX6_caught 45 = .ok (.iconst 4, 1) := by decide +kernel
theorem dX6_caught_46 : decode cX6_caught 46 = .ok (.dup2, 1) := by decide +kernel
theorem dX6_caught_47 : decode cX6_caught 47 = .ok (.iaload, 1) := by decide +kernel
theorem dX6_caught_48 : decode cX6_caught 48 = .ok (.iconst 1, 1) := by decide +kernel
theorem dX6_caught_49 : decode cX6_caught 49 = .ok (.iload_n 1, 1) := by decide +kernel
theorem dX6_caught_50 : decode cX6_caught 50 = .ok (.ishl, 1) := by decide +kernel
theorem dX6_caught_51 : decode cX6_caught 51 = .ok (.ixor, 1) := by decide +kernel
theorem dX6_caught_52 : decode cX6_caught 52 = .ok (.iastore, 1) := by decide +kernel
theorem dX6_caught_53 : decode cX6_caught 53 = .ok (.iconst 1, 1) := by decide +kernel
theorem dX6_caught_54 : decode cX6_caught 54 = .ok (.ireturn, 1) := by decide +kernel
theorem dX6_good_0 : decode cX6_good 0 = .ok (.aload_n 0, 1) := by decide +kernel
theorem dX6_good_1 : decode cX6_good 1 = .ok (.iload_n 1, 1) := by decide +kernel
theorem dX6_good_2 : decode cX6_good 2 = .ok (.invokevirtual 83, 3) := by decide +kernel
theorem dX6_good_5 : decode cX6_good 5 = .ok (.ifCond .eq 15, 3) := by decide +kernel
theorem dX6_good_8 : decode cX6_good 8 = .ok (.iload_n 2, 1) := by decide +kernel
theorem dX6_good_9 : decode cX6_good 9 = .ok (.i2l, 1) := by decide +kernel
theorem dX6_good_10 : decode cX6_good 10 = .ok (.lconst 0, 1) := by decide +kernel
theorem dX6_good_11 : decode cX6_good 11 = .ok (.ldc2_w 101, 3) := by decide +kernel
theorem dX6_good_14 : decode cX6_good 14 = .ok (.invokestatic 56, 3) := by decide +kernel
theorem dX6_good_17 : decode cX6_good 17 = .ok (.ifCond .ne 8, 3) := by decide +kernel
theorem dX6_good_20 : decode cX6_good 20 = .ok (.aload_n 0, 1) := by decide +kernel
theorem dX6_good_21 : decode cX6_good 21 = .ok (.invokevirtual 79, 3) := by decide +kernel
theorem dX6_good_24 : decode cX6_good 24 = .ok (.ireturn, 1) := by decide +kernel
theorem dX6_good_25 : decode cX6_good 25 = .ok (.aload_n 0, 1) := by decide +kernel
theorem dX6_good_26 : decode cX6_good 26 = .ok (.getfield 7, 3) := by decide +kernel
theorem dX6_good_29 : decode cX6_good 29 = .ok (.bipush 9, 2) := by decide +kernel
theorem dX6_good_31 : decode cX6_good 31 = .ok (.iload_n 1, 1) := by decide +kernel
theorem dX6_good_32 : decode cX6_good 32 = .ok (.iadd, 1) := by decide +kernel
theorem dX6_good_33 : decode cX6_good 33 = .ok (.iaload, 1) := by decide +kernel
theorem dX6_good_34 : decode cX6_good 34 = .ok (.istore_n 3, 1) := by decide +kernel
theorem dX6_good_35 : decode cX6_good 35 = .ok (.aload_n 0, 1) := by decide +kernel
theorem dX6_good_36 : decode cX6_good 36 = .ok (.getfield 7, 3) := by decide +kernel
theorem dX6_good_39 : decode cX6_good 39 = .ok (.bipush 9, 2) := by decide +kernel
theorem dX6_good_41 : decode cX6_good 41 = .ok (.iload_n 1, 1) := by decide +kernel
theorem dX6_good_42 : decode cX6_good 42 = .ok (.iadd, 1) := by decide +kernel
theorem dX6_good_43 : decode cX6_good 43 = .ok (.iload_n 2, 1) := by decide +kernel
theorem dX6_good_44 : decode cX6_good 44 = .ok (.iastore, 1) := by decide +kernel
theorem dX6_good_45 : decode cX6_good 45 = .ok (.iload_n 3, 1) := by decide +kernel
theorem dX6_good_46 : decode cX6_good 46 = .ok (.ireturn, 1) := by decide +kernel
theorem dX6_put_0 : decode cX6_put 0 = .ok (.iload_n 1, 1) := by decide +kernel
theorem dX6_put_1 : decode cX6_put 1 = .ok (.i2l, 1) := by decide +kernel
theorem dX6_put_2 : decode cX6_put 2 = .ok (.lconst 0, 1) := by decide +kernel
theorem dX6_put_3 : decode cX6_put 3 = .ok (.lconst 1, 1) := by decide +kernel
theorem dX6_put_4 : decode cX6_put 4 = .ok (.invokestatic 56, 3) := by decide +kernel
theorem dX6_put_7 : decode cX6_put 7 = .ok (.ifCond .eq 15, 3) := by decide +kernel
theorem dX6_put_10 : decode cX6_put 10 = .ok (.iload_n 2, 1) := by decide +kernel
theorem dX6_put_11 : decode cX6_put 11 = .ok (.i2l, 1) := by decide +kernel
theorem dX6_put_12 : decode cX6_put 12 = .ok (.lconst 0, 1) := by decide +kernel
theorem dX6_put_13 : decode cX6_put 13 = .ok (.ldc2_w 103, 3) := by decide +kernel
theorem dX6_put_16 : decode cX6_put 16 = .ok (.invokestatic 56, 3) := by decide +kernel
theorem dX6_put_19 : decode cX6_put 19 = .ok (.ifCond .ne 8, 3) := by decide +kernel
theorem dX6_put_22 : decode cX6_put 22 = .ok (.aload_n 0, 1) := by decide +kernel
theorem dX6_put_23 : decode cX6_put 23 = .ok (.invokevirtual 79, 3) := by decide +kernel
theorem dX6_put_26 : decode cX6_put 26 = .ok (.ireturn, 1) := by decide +kernel
theorem dX6_put_27 : decode cX6_put 27 = .ok (.aload_n 0, 1) := by decide +kernel
theorem dX6_put_28 : decode cX6_put 28 = .ok (.getfield 7, 3) := by decide +kernel
theorem dX6_put_31 : decode cX6_put 31 = .ok (.iconst 5, 1) := by decide +kernel
theorem dX6_put_32 : decode cX6_put 32 = .ok (.iload_n 1, 1) := by decide +kernel
theorem dX6_put_33 : decode cX6_put 33 = .ok (.iadd, 1) := by decide +kernel
theorem dX6_put_34 : decode cX6_put 34 = .ok (.iaload, 1) := by decide +kernel
theorem dX6_put_35 : decode cX6_put 35 = .ok (.istore_n 3, 1) := by decide +kernel
theorem dX6_put_36 : decode cX6_put 36 = .ok (.aload_n 0, 1) := by decide +kernel
theorem dX6_put_37 : decode cX6_put 37 = .ok (.getfield 7, 3) := by decide +kernel
theorem dX6_put_40 : decode cX6_put 40 = .ok (.iconst 5, 1) := by decide +kernel
theorem dX6_put_41 : decode cX6_put 41 = .ok (.iload_n 1, 1) := by decide +kernel
theorem dX6_put_42 : decode cX6_put 42 = .ok (.iadd, 1) := by decide +kernel
theorem dX6_put_43 : decode cX6_put 43 = .ok (.iload_n 2, 1) := by decide +kernel
theorem dX6_put_44 : decode cX6_put 44 = .ok (.iastore, 1) := by decide +kernel
theorem dX6_put_45 : decode cX6_put 45 = .ok (.iload_n 3, 1) := by decide +kernel
theorem dX6_put_46 : decode cX6_put 46 = .ok (.ireturn, 1) := by decide +kernel
theorem dX6_order_0 : decode cX6_order 0 = .ok (.iload_n 1, 1) := by decide +kernel
theorem dX6_order_1 : decode cX6_order 1 = .ok (.i2l, 1) := by decide +kernel
theorem dX6_order_2 : decode cX6_order 2 = .ok (.lconst 0, 1) := by decide +kernel
theorem dX6_order_3 : decode cX6_order 3 = .ok (.ldc2_w 101, 3) := by decide +kernel
theorem dX6_order_6 : decode cX6_order 6 = .ok (.invokestatic 56, 3) := by decide +kernel
theorem dX6_order_9 : decode cX6_order 9 = .ok (.ifCond .ne 8, 3) := by decide +kernel
theorem dX6_order_12 : decode cX6_order 12 = .ok (.aload_n 0, 1) := by decide +kernel
theorem dX6_order_13 : decode cX6_order 13 = .ok (.invokevirtual 79, 3) := by decide +kernel
theorem dX6_order_16 : decode cX6_order 16 = .ok (.ireturn, 1) := by decide +kernel
theorem dX6_order_17 : decode cX6_order 17 = .ok (.aload_n 0, 1) := by decide +kernel
theorem dX6_order_18 : decode cX6_order 18 = .ok (.getfield 7, 3) := by decide +kernel
theorem dX6_order_21 : decode cX6_order 21 = .ok (.iconst 2, 1) := by decide +kernel
theorem dX6_order_22 : decode cX6_order 22 = .ok (.iaload, 1) := by decide +kernel
theorem dX6_order_23 : decode cX6_order 23 = .ok (.bipush 6, 2) := by decide +kernel
theorem dX6_order_25 : decode cX6_order 25 = .ok (.if_icmp .ne 8, 3) := by decide +kernel
theorem dX6_order_28 : decode cX6_order 28 = .ok (.aload_n 0, 1) := by decide +kernel
theorem dX6_order_29 : decode cX6_order 29 = .ok (.invokevirtual 91, 3) := by decide +kernel
theorem dX6_order_32 : decode cX6_order 32 = .ok (.ireturn, 1) := by decide +kernel
theorem dX6_order_33 : decode cX6_order 33 = .ok (.aload_n 0, 1) := by decide +kernel
theorem dX6_order_34 : decode cX6_order 34 = .ok (.getfield 7, 3) := by decide +kernel
theorem dX6_order_37 : decode cX6_order 37 = .ok (.bipush 56, 2) := by decide +kernel
theorem dX6_order_39 : decode cX6_order 39 = .ok (.aload_n 0, 1) := by decide +kernel
theorem dX6_order_40 : decode cX6_order 40 = .ok (.getfield 7, 3) := by decide +kernel
theorem dX6_order_43 : decode cX6_order 43 = .ok (.iconst 2, 1) := by decide +kernel
theorem dX6_order_44 : decode cX6_order 44 = .ok (.iaload, 1) := by decide +kernel
theorem dX6_order_45 : decode cX6_order 45 = .ok (.iadd, 1) := by decide +kernel
theorem dX6_order_46 : decode cX6_order 46 = .ok (.iload_n 1, 1) := by decide +kernel
theorem dX6_order_47 : decode cX6_order 47 = .ok (.iastore, 1) := by decide +kernel
theorem dX6_order_48 : decode cX6_order 48 = .ok (.aload_n 0, 1) := by decide +kernel
theorem dX6_order_49 : decode cX6_order 49 = .ok (.getfield 7, 3) := by decide +kernel
theorem dX6_order_52 : decode cX6_order 52 = .ok (.iconst 2, 1) := by decide +kernel
theorem dX6_order_53 : decode cX6_order 53 = .ok (.dup2, 1) := by decide +kernel
theorem dX6_order_54 : decode cX6_order 54 = .ok (.iaload, 1) := by decide +kernel
theorem dX6_order_55 : decode cX6_order 55 = .ok (.iconst 1, 1) := by decide +kernel
theorem dX6_order_56 : decode cX6_order 56 = .ok (.iadd, 1) := by decide +kernel
theorem dX6_order_57 : decode cX6_order 57 = .ok (.iastore, 1) := by decide +kernel
theorem dX6_order_58 : decode cX6_order 58 = .ok (.aload_n 0, 1) := by decide +kernel
theorem dX6_order_59 : decode cX6_order 59 = .ok (.getfield 7, 3) := by decide +kernel
theorem dX6_order_62 : decode cX6_order 62 = .ok (.iconst 2, 1) := by decide +kernel
theorem dX6_order_63 : decode cX6_order 63 = .ok (.iaload, 1) := by decide +kernel
theorem dX6_order_64 : decode cX6_order 64 = .ok (.iconst 1, 1) := by decide +kernel
theorem dX6_order_65 : decode cX6_order 65 = .ok (.isub, 1) := by decide +kernel
theorem dX6_order_66 : decode cX6_order 66 = .ok (.ireturn, 1) := by decide +kernel
theorem dX6_type_0 : decode cX6_type 0 = .ok (.iload_n 3, 1) := by decide +kernel
theorem dX6_type_1 : decode cX6_type 1 = .ok (.i2l, 1) := by decide +kernel
theorem dX6_type_2 : decode cX6_type 2 = .ok (.lconst 1, 1) := by decide +kernel
theorem dX6_type_3 : decode cX6_type 3 = .ok (.ldc2_w 105, 3) := by decide +kernel
theorem dX6_type_6 : decode cX6_type 6 = .ok (.invokestatic 56, 3) := by decide +kernel
theorem dX6_type_9 : decode cX6_type 9 = .ok (.ifCond .ne 8, 3) := by decide +kernel
theorem dX6_type_12 : decode cX6_type 12 = .ok (.aload_n 0, 1) := by decide +kernel
theorem dX6_type_13 : decode cX6_type 13 = .ok (.invokevirtual 79, 3) := by decide +kernel
theorem dX6_type_16 : decode cX6_type 16 = .ok (.ireturn, 1) := by decide +kernel
theorem dX6_type_17 : decode cX6_type 17 = .ok (.aload_n 0, 1) := by decide +kernel
theorem dX6_type_18 : decode cX6_type 18 = .ok (.getfield 107, 3) := by decide +kernel
theorem dX6_type_21 : decode cX6_type 21 = .ok (.iload_n 3, 1) := by decide +kernel
theorem dX6_type_22 : decode cX6_type 22 = .ok (.iadd, 1) := by decide +kernel
theorem dX6_type_23 : decode cX6_type 23 = .ok (.sipush 200, 3) := by decide +kernel
theorem dX6_type_26 : decode cX6_type 26 = .ok (.if_icmp .le 8, 3) := by decide +kernel
theorem dX6_type_29 : decode cX6_type 29 = .ok (.aload_n 0, 1) := by decide +kernel
theorem dX6_type_30 : decode cX6_type 30 = .ok (.invokevirtual 91, 3) := by decide +kernel
theorem dX6_type_33 : decode cX6_type 33 = .ok (.ireturn, 1) := by decide +kernel
theorem dX6_type_34 : decode cX6_type 34 = .ok (.iload_n 3, 1) := by decide +kernel
theorem dX6_type_35 : decode cX6_type 35 = .ok (.iconst 1, 1) := by decide +kernel
theorem dX6_type_36 : decode cX6_type 36 = .ok (.isub, 1) := by decide +kernel
theorem dX6_type_37 : decode cX6_type 37 = .ok (.istore 4, 2) := by decide +kernel
theorem dX6_type_39 : decode cX6_type 39 = .ok (.iload 4, 2) := by decide +kernel
theorem dX6_type_41 : decode cX6_type 41 = .ok (.ifCond .lt 40, 3) := by decide +kernel
theorem dX6_type_44 : decode cX6_type 44 = .ok (.aload_n 0, 1) := by decide +kernel
theorem dX6_type_45 : decode cX6_type 45 = .ok (.getfield 26, 3) := by decide +kernel
theorem dX6_type_48 : decode cX6_type 48 = .ok (.aload_n 0, 1) := by decide +kernel
theorem dX6_type_49 : decode cX6_type 49 = .ok (.getfield 107, 3) := by decide +kernel
theorem dX6_type_52 : decode cX6_type 52 = .ok (.lload_n 1, 1) := by decide +kernel
theorem dX6_type_53 : decode cX6_type 53 = .ok (.bipush 8, 2) := by decide +kernel
theorem dX6_type_55 : decode cX6_type 55 = .ok (.iload 4, 2) := by decide +kernel
theorem dX6_type_57 : decode cX6_type 57 = .ok (.imul, 1) := by decide +kernel
theorem dX6_type_58 : decode cX6_type 58 = .ok (.lshr, 1) := by decide +kernel
theorem dX6_type_59 : decode cX6_type 59 = .ok (.ldc2_w 111, 3) := by decide +kernel
theorem dX6_type_62 : decode cX6_type 62 = .ok (.land, 1) := by decide +kernel
theorem dX6_type_63 : decode cX6_type 63 = .ok (.l2i, 1) := by decide +kernel
theorem dX6_type_64 : decode cX6_type 64 = .ok (.iastore, 1) := by decide +kernel
theorem dX6_type_65 : decode cX6_type 65 = .ok (.aload_n 0, 1) := by decide +kernel
theorem dX6_type_66 : decode cX6_type 66 = .ok (.dup, 1) := by decide +kernel
theorem dX6_type_67 : decode cX6_type 67 = .ok (.getfield 107, 3) := by decide +kernel
theorem dX6_type_70 : decode cX6_type 70 = .ok (.iconst 1, 1) := by decide +kernel
theorem dX6_type_71 : decode cX6_type 71 = .ok (.iadd, 1) := by decide +kernel
theorem dX6_type_72 : decode cX6_type 72 = .ok (.putfield 107, 3) := by decide +kernel
theorem dX6_type_75 : decode cX6_type 75 = .ok (.iinc 4 (-1), 3) := by decide +kernel
theorem dX6_type_78 : decode cX6_type 78 = .ok (.goto (-39), 3) := by decide +kernel
theorem dX6_type_81 : decode cX6_type 81 = .ok (.aload_n 0, 1) := by decide +kernel
theorem dX6_type_82 : decode cX6_type 82 = .ok (.getfield 107, 3) := by decide +kernel
theorem dX6_type_85 : decode cX6_type 85 = .ok (.ireturn, 1) := by decide +kernel
theorem dX6_clear_0 : decode cX6_clear 0 = .ok (.aload_n 0, 1) := by decide +kernel
theorem dX6_clear_1 : decode cX6_clear 1 = .ok (.getfield 107, 3) := by decide +kernel
theorem dX6_clear_4 : decode cX6_clear 4 = .ok (.istore_n 1, 1) := by decide +kernel
theorem dX6_clear_5 : decode cX6_clear 5 = .ok (.aload_n 0, 1) := by decide +kernel
theorem dX6_clear_6 : decode cX6_clear 6 = .ok (.iconst 0, 1) := by decide +kernel
theorem dX6_clear_7 : decode cX6_clear 7 = .ok (.putfield 107, 3) := by decide +kernel
theorem dX6_clear_10 : decode cX6_clear 10 = .ok (.iload_n 1, 1) := by decide +kernel
theorem dX6_clear_11 : decode cX6_clear 11 = .ok (.ireturn, 1) := by decide +kernel
theorem dX6_isAt_0 : decode cX6_isAt 0 = .ok (.aload_n 0, 1) := by decide +kernel
theorem dX6_isAt_1 : decode cX6_isAt 1 = .ok (.getfield 113, 3) := by decide +kernel
theorem dX6_isAt_4 : decode cX6_isAt 4 = .ok (.aload_n 0, 1) := by decide +kernel
theorem dX6_isAt_5 : decode cX6_isAt 5 = .ok (.getfield 107, 3) := by decide +kernel
theorem dX6_isAt_8 : decode cX6_isAt 8 = .ok (.if_icmp .ge 27, 3) := by decide +kernel
theorem dX6_isAt_11 : decode cX6_isAt 11 = .ok (.aload_n 0, 1) := by decide +kernel
theorem dX6_isAt_12 : decode cX6_isAt 12 = .ok (.getfield 26, 3) := by decide +kernel
theorem dX6_isAt_15 : decode cX6_isAt 15 = .ok (.aload_n 0, 1) := by decide +kernel
theorem dX6_isAt_16 : decode cX6_isAt 16 = .ok (.getfield 113, 3) := by decide +kernel
theorem dX6_isAt_19 : decode cX6_isAt 19 = .ok (.iaload, 1) := by decide +kernel
theorem dX6_isAt_20 : decode cX6_isAt 20 = .ok (.i2l, 1) := by decide +kernel
theorem dX6_isAt_21 : decode cX6_isAt 21 = .ok (.iload_n 1, 1) := by decide +kernel
theorem dX6_isAt_22 : decode cX6_isAt 22 = .ok (.i2l, 1) := by decide +kernel
theorem dX6_isAt_23 : decode cX6_isAt 23 = .ok (.iload_n 2, 1) := by decide +kernel
theorem dX6_isAt_24 : decode cX6_isAt 24 = .ok (.i2l, 1) := by decide +kernel
theorem dX6_isAt_25 : decode cX6_isAt 25 = .ok (.invokestatic 56, 3) := by decide +kernel
theorem dX6_isAt_28 : decode cX6_isAt 28 = .ok (.ifCond .eq 7, 3) := by decide +kernel
theorem dX6_isAt_31 : decode cX6_isAt 31 = .ok (.iconst 1, 1) := by decide +kernel
theorem dX6_isAt_32 : decode cX6_isAt 32 = .ok (.goto 4, 3) := by decide +kernel
theorem dX6_isAt_35 : decode cX6_isAt 35 = .ok (.iconst 0, 1) := by decide +kernel
theorem dX6_isAt_36 : decode cX6_isAt 36 = .ok (.ireturn, 1) := by decide +kernel
theorem dX6_verbOf_0 : decode cX6_verbOf 0 = .ok (.lload_n 0, 1) := by decide +kernel
theorem dX6_verbOf_1 : decode cX6_verbOf 1 = .ok (.ldc2_w 116, 3) := by decide +kernel
theorem dX6_verbOf_4 : decode cX6_verbOf 4 = .ok (.lcmp, 1) := by decide +kernel
theorem dX6_verbOf_5 : decode cX6_verbOf 5 = .ok (.ifCond .ne 7, 3) := by decide +kernel
theorem dX6_verbOf_8 : decode cX6_verbOf 8 = .ok (.iconst 0, 1) := by decide +kernel
theorem dX6_verbOf_9 : decode cX6_verbOf 9 = .ok (.goto 28, 3) := by decide +kernel
theorem dX6_verbOf_12 : decode cX6_verbOf 12 = .ok (.lload_n 0, 1) := by decide +kernel
theorem dX6_verbOf_13 : decode cX6_verbOf 13 = .ok (.ldc2_w 118, 3) := by decide +kernel
theorem dX6_verbOf_16 : decode cX6_verbOf 16 = .ok (.lcmp, 1) := by decide +kernel
theorem dX6_verbOf_17 : decode cX6_verbOf 17 = .ok (.ifCond .ne 7, 3) := by decide +kernel
theorem dX6_verbOf_20 : decode cX6_verbOf 20 = .ok (.iconst 1, 1) := by decide +kernel
theorem dX6_verbOf_21 : decode cX6_verbOf 21 = .ok (.goto 16, 3) := by decide +kernel
theorem dX6_verbOf_24 : decode cX6_verbOf 24 = .ok (.lload_n 0, 1) := by decide +kernel
theorem dX6_verbOf_25 : decode cX6_verbOf 25 = .ok (.ldc2_w 120, 3) := by decide +kernel
theorem dX6_verbOf_28 : decode cX6_verbOf 28 = .ok (.lcmp, 1) := by decide +kernel
theorem dX6_verbOf_29 : decode cX6_verbOf 29 = .ok (.ifCond .ne 7, 3) := by decide +kernel
theorem dX6_verbOf_32 : decode cX6_verbOf 32 = .ok (.iconst 2, 1) := by decide +kernel
theorem dX6_verbOf_33 : decode cX6_verbOf 33 = .ok (.goto 4, 3) := by decide +kernel
theorem dX6_verbOf_36 : decode cX6_verbOf 36 = .ok (.iconst (-1), 1) := by decide +kernel
theorem dX6_verbOf_37 : decode cX6_verbOf 37 = .ok (.istore_n 2, 1) := by decide +kernel
theorem dX6_verbOf_38 : decode cX6_verbOf 38 = .ok (.lload_n 0, 1) := by decide +kernel
theorem dX6_verbOf_39 : decode cX6_verbOf 39 = .ok (.ldc2_w 122, 3) := by decide +kernel
theorem dX6_verbOf_42 : decode cX6_verbOf 42 = .ok (.lcmp, 1) := by decide +kernel
theorem dX6_verbOf_43 : decode cX6_verbOf 43 = .ok (.ifCond .ne 7, 3) := by decide +kernel
theorem dX6_verbOf_46 : decode cX6_verbOf 46 = .ok (.iconst 3, 1) := by decide +kernel
theorem dX6_verbOf_47 : decode cX6_verbOf 47 = .ok (.goto 16, 3) := by decide +kernel
theorem dX6_verbOf_50 : decode cX6_verbOf 50 = .ok (.lload_n 0, 1) := by decide +kernel
theorem dX6_verbOf_51 : decode cX6_verbOf 51 = .ok (.ldc2_w 124, 3) := by decide +kernel
theorem dX6_verbOf_54 : decode cX6_verbOf 54 = .ok (.lcmp, 1) := by decide +kernel
theorem dX6_verbOf_55 : decode cX6_verbOf 55 = .ok (.ifCond .ne 7, 3) := by decide +kernel
theorem dX6_verbOf_58 : decode cX6_verbOf 58 = .ok (.iconst 4, 1) := by decide +kernel
theorem dX6_verbOf_59 : decode cX6_verbOf 59 = .ok (.goto 4, 3) := by decide +kernel
theorem dX6_verbOf_62 : decode cX6_verbOf 62 = .ok (.iconst (-1), 1) := by decide +kernel
theorem dX6_verbOf_63 : decode cX6_verbOf 63 = .ok (.istore_n 3, 1) := by decide +kernel
theorem dX6_verbOf_64 : decode cX6_verbOf 64 = .ok (.iload_n 2, 1) := by decide +kernel
theorem dX6_verbOf_65 : decode cX6_verbOf 65 = .ok (.iconst (-1), 1) := by decide +kernel
theorem dX6_verbOf_66 : decode cX6_verbOf 66 = .ok (.if_icmp .eq 7, 3) := by decide +kernel
theorem dX6_verbOf_69 : decode cX6_verbOf 69 = .ok (.iload_n 2, 1) := by decide +kernel
theorem dX6_verbOf_70 : decode cX6_verbOf 70 = .ok (.goto 4, 3) := by decide +kernel
theorem dX6_verbOf_73 : decode cX6_verbOf 73 = .ok (.iload_n 3, 1) := by decide +kernel
theorem dX6_verbOf_74 : decode cX6_verbOf 74 = .ok (.ireturn, 1) := by decide +kernel
theorem dX6_scans_0 : decode cX6_scans 0 = .ok (.aload_n 0, 1) := by decide +kernel
theorem dX6_scans_1 : decode cX6_scans 1 = .ok (.bipush 32, 2) := by decide +kernel
theorem dX6_scans_3 : decode cX6_scans 3 = .ok (.bipush 32, 2) := by decide +kernel
theorem dX6_scans_5 : decode cX6_scans 5 = .ok (.invokevirtual 126, 3) := by decide +kernel
theorem dX6_scans_8 : decode cX6_scans 8 = .ok (.ifCond .eq 16, 3) := by decide +kernel
theorem dX6_scans_11 : decode cX6_scans 11 = .ok (.aload_n 0, 1) := by decide +kernel
theorem dX6_scans_12 : decode cX6_scans 12 = .ok (.dup, 1) := by decide +kernel
theorem dX6_scans_13 : decode cX6_scans 13 = .ok (.getfield 113, 3) := by decide +kernel
theorem dX6_scans_16 : decode cX6_scans 16 = .ok (.iconst 1, 1) := by decide +kernel
theorem dX6_scans_17 : decode cX6_scans 17 = .ok (.iadd, 1) := by decide +kernel
theorem dX6_scans_18 : decode cX6_scans 18 = .ok (.putfield 113, 3) := by decide +kernel
theorem dX6_scans_21 : decode cX6_scans 21 = .ok (.goto (-21), 3) := by decide +kernel
theorem dX6_scans_24 : decode cX6_scans 24 = .ok (.aload_n 0, 1) := by decide +kernel
theorem dX6_scans_25 : decode cX6_scans 25 = .ok (.aload_n 0, 1) := by decide +kernel
theorem dX6_scans_26 : decode cX6_scans 26 = .ok (.getfield 113, 3) := by decide +kernel
theorem dX6_scans_29 : decode cX6_scans 29 = .ok (.putfield 129, 3) := by decide +kernel
theorem dX6_scans_32 : decode cX6_scans 32 = .ok (.aload_n 0, 1) := by decide +kernel
theorem dX6_scans_33 : decode cX6_scans 33 = .ok (.getfield 113, 3) := by decide +kernel
theorem dX6_scans_36 : decode cX6_scans 36 = .ok (.aload_n 0, 1) := by decide +kernel
theorem dX6_scans_37 : decode cX6_scans 37 = .ok (.getfield 107, 3) := by decide +kernel
theorem dX6_scans_40 : decode cX6_scans 40 = .ok (.if_icmp .ne 9, 3) := by decide +kernel
theorem dX6_scans_43 : decode cX6_scans 43 = .ok (.aload_n 0, 1) := by decide +kernel
theorem dX6_scans_44 : decode cX6_scans 44 = .ok (.iconst 0, 1) := by decide +kernel
theorem dX6_scans_45 : decode cX6_scans 45 = .ok (.putfield 132, 3) := by decide +kernel
theorem dX6_scans_48 : decode cX6_scans 48 = .ok (.return_, 1) := by decide +kernel
theorem dX6_scans_49 : decode cX6_scans 49 = .ok (.aload_n 0, 1) := by decide +kernel
theorem dX6_scans_50 : decode cX6_scans 50 = .ok (.bipush 97, 2) := by decide +kernel
theorem dX6_scans_52 : decode cX6_scans 52 = .ok (.bipush 122, 2) := by decide +kernel
theorem dX6_scans_54 : decode cX6_scans 54 = .ok (.invokevirtual 126, 3) := by decide +kernel
theorem dX6_scans_57 : decode cX6_scans 57 = .ok (.ifCond .eq 107, 3) := by decide +kernel
theorem dX6_scans_60 : decode cX6_scans 60 = .ok (.lconst 0, 1) := by decide +kernel
theorem dX6_scans_61 : decode cX6_scans 61 = .ok (.lstore_n 1, 1) := by decide +kernel
theorem dX6_scans_62 : decode cX6_scans 62 = .ok (.aload_n 0, 1) := by decide +kernel
theorem dX6_scans_63 : decode cX6_scans 63 = .ok (.bipush 97, 2) := by decide +kernel
theorem dX6_scans_65 : decode cX6_scans 65 = .ok (.bipush 122, 2) := by decide +kernel
theorem dX6_scans_67 : decode cX6_scans 67 = .ok (.invokevirtual 126, 3) := by decide +kernel
theorem dX6_scans_70 : decode cX6_scans 70 = .ok (.ifCond .eq 57, 3) := by decide +kernel
theorem dX6_scans_73 : decode cX6_scans 73 = .ok (.aload_n 0, 1) := by decide +kernel
theorem dX6_scans_74 : decode cX6_scans 74 = .ok (.getfield 113, 3) := by decide +kernel
theorem dX6_scans_77 : decode cX6_scans 77 = .ok (.aload_n 0, 1) := by decide +kernel
theorem dX6_scans_78 : decode cX6_scans 78 = .ok (.getfield 129, 3) := by decide +kernel
theorem dX6_scans_81 : decode cX6_scans 81 = .ok (.isub, 1) := by decide +kernel
theorem dX6_scans_82 : decode cX6_scans 82 = .ok (.bipush 7, 2) := by decide +kernel
theorem dX6_scans_84 : decode cX6_scans 84 = .ok (.if_icmp .le 7, 3) := by decide +kernel
theorem dX6_scans_87 : decode cX6_scans 87 = .ok (.lconst 0, 1) := by decide +kernel
theorem dX6_scans_88 : decode cX6_scans 88 = .ok (.goto 25, 3) := by decide +kernel
theorem dX6_scans_91 : decode cX6_scans 91 = .ok (.ldc2_w 135, 3) := by decide +kernel
theorem dX6_scans_94 : decode cX6_scans 94 = .ok (.lload_n 1, 1) := by decide +kernel
theorem dX6_scans_95 : decode cX6_scans 95 = .ok (.lmul, 1) := by decide +kernel
theorem dX6_scans_96 : decode cX6_scans 96 = .ok (.aload_n 0, 1) := by decide +kernel
theorem dX6_scans_97 : decode cX6_scans 97 = .ok (.getfield 26, 3) := by decide +kernel
theorem dX6_scans_100 : decode cX6_scans 100 = .ok (.aload_n 0, 1) := by decide +kernel
theorem dX6_scans_101 : decode cX6_scans 101 = .ok (.getfield 113, 3) := by decide +kernel
theorem dX6_scans_104 : decode cX6_scans 104 = .ok (.iaload, 1) := by decide +kernel
theorem dX6_scans_105 : decode cX6_scans 105 = .ok (.i2l, 1) := by decide +kernel
theorem dX6_scans_106 : decode cX6_scans 106 = .ok (.ladd, 1) := by decide +kernel
theorem dX6_scans_107 : decode cX6_scans 107 = .ok (.ldc2_w 137, 3) := by decide +kernel
theorem dX6_scans_110 : decode cX6_scans 110 = .ok (.lsub, 1) := by decide +kernel
theorem dX6_scans_111 : decode cX6_scans 111 = .ok (.lconst 1, 1) := by decide +kernel
theorem dX6_scans_112 : decode cX6_scans 112 = .ok (.ladd, 1) := by decide +kernel
theorem dX6_scans_113 : decode cX6_scans 113 = .ok (.lstore_n 1, 1) := by decide +kernel
theorem dX6_scans_114 : decode cX6_scans 114 = .ok (.aload_n 0, 1) := by decide +kernel
theorem dX6_scans_115 : decode cX6_scans 115 = .ok (.dup, 1) := by decide +kernel
theorem dX6_scans_116 : decode cX6_scans 116 = .ok (.getfield 113, 3) := by decide +kernel
theorem dX6_scans_119 : decode cX6_scans 119 = .ok (.iconst 1, 1) := by decide +kernel
theorem dX6_scans_120 : decode cX6_scans 120 = .ok (.iadd, 1) := by decide +kernel
theorem dX6_scans_121 : decode cX6_scans 121 = .ok (.putfield 113, 3) := by decide +kernel
theorem dX6_scans_124 : decode cX6_scans 124 = .ok (.goto (-62), 3) := by decide +kernel
theorem dX6_scans_127 : decode cX6_scans 127 = .ok (.aload_n 0, 1) := by decide +kernel
theorem dX6_scans_128 : decode cX6_scans 128 = .ok (.aload_n 0, 1) := by decide +kernel
theorem dX6_scans_129 : decode cX6_scans 129 = .ok (.getfield 113, 3) := by decide +kernel
theorem dX6_scans_132 : decode cX6_scans 132 = .ok (.aload_n 0, 1) := by decide +kernel
theorem dX6_scans_133 : decode cX6_scans 133 = .ok (.getfield 129, 3) := by decide +kernel
theorem dX6_scans_136 : decode cX6_scans 136 = .ok (.isub, 1) := by decide +kernel
theorem dX6_scans_137 : decode cX6_scans 137 = .ok (.bipush 7, 2) := by decide +kernel
theorem dX6_scans_139 : decode cX6_scans 139 = .ok (.if_icmp .gt 11, 3) := by decide +kernel
theorem dX6_scans_142 : decode cX6_scans 142 = .ok (.lload_n 1, 1) := by decide +kernel
theorem dX6_scans_143 : decode cX6_scans 143 = .ok (.invokestatic 139, 3) := by decide +kernel
theorem dX6_scans_146 : decode cX6_scans 146 = .ok (.iconst (-1), 1) := by decide +kernel
theorem dX6_scans_147 : decode cX6_scans 147 = .ok (.if_icmp .ne 7, 3) := by decide +kernel
theorem dX6_scans_150 : decode cX6_scans 150 = .ok (.iconst 1, 1) := by decide +kernel
theorem dX6_scans_151 : decode cX6_scans 151 = .ok (.goto 9, 3) := by decide +kernel
theorem dX6_scans_154 : decode cX6_scans 154 = .ok (.iconst 5, 1) := by decide +kernel
theorem dX6_scans_155 : decode cX6_scans 155 = .ok (.lload_n 1, 1) := by decide +kernel
theorem dX6_scans_156 : decode cX6_scans 156 = .ok (.invokestatic 139, 3) := by decide +kernel
theorem dX6_scans_159 : decode cX6_scans 159 = .ok (.iadd, 1) := by decide +kernel
theorem dX6_scans_160 : decode cX6_scans 160 = .ok (.putfield 132, 3) := by decide +kernel
theorem dX6_scans_163 : decode cX6_scans 163 = .ok (.return_, 1) := by decide +kernel
theorem dX6_scans_164 : decode cX6_scans 164 = .ok (.aload_n 0, 1) := by decide +kernel
theorem dX6_scans_165 : decode cX6_scans 165 = .ok (.bipush 48, 2) := by decide +kernel
theorem dX6_scans_167 : decode cX6_scans 167 = .ok (.bipush 57, 2) := by decide +kernel
theorem dX6_scans_169 : decode cX6_scans 169 = .ok (.invokevirtual 126, 3) := by decide +kernel
theorem dX6_scans_172 : decode cX6_scans 172 = .ok (.ifCond .eq 64, 3) := by decide +kernel
theorem dX6_scans_175 : decode cX6_scans 175 = .ok (.aload_n 0, 1) := by decide +kernel
theorem dX6_scans_176 : decode cX6_scans 176 = .ok (.aload_n 0, 1) := by decide +kernel
theorem dX6_scans_177 : decode cX6_scans 177 = .ok (.getfield 26, 3) := by decide +kernel
theorem dX6_scans_180 : decode cX6_scans 180 = .ok (.aload_n 0, 1) := by decide +kernel
theorem dX6_scans_181 : decode cX6_scans 181 = .ok (.getfield 113, 3) := by decide +kernel
theorem dX6_scans_184 : decode cX6_scans 184 = .ok (.iaload, 1) := by decide +kernel
theorem dX6_scans_185 : decode cX6_scans 185 = .ok (.bipush 48, 2) := by decide +kernel
theorem dX6_scans_187 : decode cX6_scans 187 = .ok (.isub, 1) := by decide +kernel
theorem dX6_scans_188 : decode cX6_scans 188 = .ok (.putfield 143, 3) := by decide +kernel
theorem dX6_scans_191 : decode cX6_scans 191 = .ok (.aload_n 0, 1) := by decide +kernel
theorem dX6_scans_192 : decode cX6_scans 192 = .ok (.iconst 2, 1) := by decide +kernel
theorem dX6_scans_193 : decode cX6_scans 193 = .ok (.putfield 132, 3) := by decide +kernel
theorem dX6_scans_196 : decode cX6_scans 196 = .ok (.aload_n 0, 1) := by decide +kernel
theorem dX6_scans_197 : decode cX6_scans 197 = .ok (.dup, 1) := by decide +kernel
theorem dX6_scans_198 : decode cX6_scans 198 = .ok (.getfield 113, 3) := by decide +kernel
theorem dX6_scans_201 : decode cX6_scans 201 = .ok (.iconst 1, 1) := by decide +kernel
theorem dX6_scans_202 : decode cX6_scans 202 = .ok (.iadd, 1) := by decide +kernel
theorem dX6_scans_203 : decode cX6_scans 203 = .ok (.putfield 113, 3) := by decide +kernel
theorem dX6_scans_206 : decode cX6_scans 206 = .ok (.aload_n 0, 1) := by decide +kernel
theorem dX6_scans_207 : decode cX6_scans 207 = .ok (.bipush 48, 2) := by decide +kernel
theorem dX6_scans_209 : decode cX6_scans 209 = .ok (.bipush 57, 2) := by decide +kernel
theorem dX6_scans_211 : decode cX6_scans 211 = .ok (.invokevirtual 126, 3) := by decide +kernel
theorem dX6_scans_214 : decode cX6_scans 214 = .ok (.ifCond .eq 21, 3) := by decide +kernel
theorem dX6_scans_217 : decode cX6_scans 217 = .ok (.aload_n 0, 1) := by decide +kernel
theorem dX6_scans_218 : decode cX6_scans 218 = .ok (.iconst 1, 1) := by decide +kernel
theorem dX6_scans_219 : decode cX6_scans 219 = .ok (.putfield 132, 3) := by decide +kernel
theorem dX6_scans_222 : decode cX6_scans 222 = .ok (.aload_n 0, 1) := by decide +kernel
theorem dX6_scans_223 : decode cX6_scans 223 = .ok (.dup, 1) := by decide +kernel
theorem dX6_scans_224 : decode cX6_scans 224 = .ok (.getfield 113, 3) := by decide +kernel
theorem dX6_scans_227 : decode cX6_scans 227 = .ok (.iconst 1, 1) := by decide +kernel
theorem dX6_scans_228 : decode cX6_scans 228 = .ok (.iadd, 1) := by decide +kernel
theorem dX6_scans_229 : decode cX6_scans 229 = .ok (.putfield 113, 3) := by decide +kernel
theorem dX6_scans_232 : decode cX6_scans 232 = .ok (.goto (-26), 3) := by decide +kernel
theorem dX6_scans_235 : decode cX6_scans 235 = .ok (.return_, 1) := by decide +kernel
theorem dX6_scans_236 : decode cX6_scans 236 = .ok (.aload_n 0, 1) := by decide +kernel
theorem dX6_scans_237 : decode cX6_scans 237 = .ok (.aload_n 0, 1) := by decide +kernel
theorem dX6_scans_238 : decode cX6_scans 238 = .ok (.bipush 59, 2) := by decide +kernel
theorem dX6_scans_240 : decode cX6_scans 240 = .ok (.bipush 59, 2) := by decide +kernel
theorem dX6_scans_242 : decode cX6_scans 242 = .ok (.invokevirtual 126, 3) := by decide +kernel
theorem dX6_scans_245 : decode cX6_scans 245 = .ok (.ifCond .eq 7, 3) := by decide +kernel
theorem dX6_scans_248 : decode cX6_scans 248 = .ok (.iconst 3, 1) := by decide +kernel
theorem dX6_scans_249 : decode cX6_scans 249 = .ok (.goto 19, 3) := by decide +kernel
theorem dX6_scans_252 : decode cX6_scans 252 = .ok (.aload_n 0, 1) := by decide +kernel
theorem dX6_scans_253 : decode cX6_scans 253 = .ok (.bipush 45, 2) := by decide +kernel
theorem dX6_scans_255 : decode cX6_scans 255 = .ok (.bipush 45, 2) := by decide +kernel
theorem dX6_scans_257 : decode cX6_scans 257 = .ok (.invokevirtual 126, 3) := by decide +kernel
theorem dX6_scans_260 : decode cX6_scans 260 = .ok (.ifCond .eq 7, 3) := by decide +kernel
theorem dX6_scans_263 : decode cX6_scans 263 = .ok (.iconst 4, 1) := by decide +kernel
theorem dX6_scans_264 : decode cX6_scans 264 = .ok (.goto 4, 3) := by decide +kernel
theorem dX6_scans_267 : decode cX6_scans 267 = .ok (.iconst 1, 1) := by decide +kernel
theorem dX6_scans_268 : decode cX6_scans 268 = .ok (.putfield 132, 3) := by decide +kernel
theorem dX6_scans_271 : decode cX6_scans 271 = .ok (.aload_n 0, 1) := by decide +kernel
theorem dX6_scans_272 : decode cX6_scans 272 = .ok (.dup, 1) := by decide +kernel
theorem dX6_scans_273 : decode cX6_scans 273 = .ok (.getfield 113, 3) := by decide +kernel
theorem dX6_scans_276 : decode cX6_scans 276 = .ok (.iconst 1, 1) := by decide +kernel
theorem dX6_scans_277 : decode cX6_scans 277 = .ok (.iadd, 1) := by decide +kernel
theorem dX6_scans_278 : decode cX6_scans 278 = .ok (.putfield 113, 3) := by decide +kernel
theorem dX6_scans_281 : decode cX6_scans 281 = .ok (.return_, 1) := by decide +kernel
theorem dX6_reads_0 : decode cX6_reads 0 = .ok (.aload_n 0, 1) := by decide +kernel
theorem dX6_reads_1 : decode cX6_reads 1 = .ok (.iconst 0, 1) := by decide +kernel
theorem dX6_reads_2 : decode cX6_reads 2 = .ok (.putfield 113, 3) := by decide +kernel
theorem dX6_reads_5 : decode cX6_reads 5 = .ok (.aload_n 0, 1) := by decide +kernel
theorem dX6_reads_6 : decode cX6_reads 6 = .ok (.iconst 0, 1) := by decide +kernel
theorem dX6_reads_7 : decode cX6_reads 7 = .ok (.putfield 146, 3) := by decide +kernel
theorem dX6_reads_10 : decode cX6_reads 10 = .ok (.aload_n 0, 1) := by decide +kernel
theorem dX6_reads_11 : decode cX6_reads 11 = .ok (.invokevirtual 149, 3) := by decide +kernel
theorem dX6_reads_14 : decode cX6_reads 14 = .ok (.aload_n 0, 1) := by decide +kernel
theorem dX6_reads_15 : decode cX6_reads 15 = .ok (.getfield 132, 3) := by decide +kernel
theorem dX6_reads_18 : decode cX6_reads 18 = .ok (.ifCond .ne 10, 3) := by decide +kernel
theorem dX6_reads_21 : decode cX6_reads 21 = .ok (.aload_n 0, 1) := by decide +kernel
theorem dX6_reads_22 : decode cX6_reads 22 = .ok (.getfield 146, 3) := by decide +kernel
theorem dX6_reads_25 : decode cX6_reads 25 = .ok (.ifCond .ne 196, 3) := by decide +kernel
theorem dX6_reads_28 : decode cX6_reads 28 = .ok (.aload_n 0, 1) := by decide +kernel
theorem dX6_reads_29 : decode cX6_reads 29 = .ok (.getfield 132, 3) := by decide +kernel
theorem dX6_reads_32 : decode cX6_reads 32 = .ok (.iconst 5, 1) := by decide +kernel
theorem dX6_reads_33 : decode cX6_reads 33 = .ok (.isub, 1) := by decide +kernel
theorem dX6_reads_34 : decode cX6_reads 34 = .ok (.istore_n 1, 1) := by decide +kernel
theorem dX6_reads_35 : decode cX6_reads 35 = .ok (.iload_n 1, 1) := by decide +kernel
theorem dX6_reads_36 : decode cX6_reads 36 = .ok (.ifCond .lt 27, 3) := by decide +kernel
theorem dX6_reads_39 : decode cX6_reads 39 = .ok (.iload_n 1, 1) := by decide +kernel
theorem dX6_reads_40 : decode cX6_reads 40 = .ok (.ifCond .ne 7, 3) := by decide +kernel
theorem dX6_reads_43 : decode cX6_reads 43 = .ok (.iconst 1, 1) := by decide +kernel
theorem dX6_reads_44 : decode cX6_reads 44 = .ok (.goto 4, 3) := by decide +kernel
theorem dX6_reads_47 : decode cX6_reads 47 = .ok (.iconst 0, 1) := by decide +kernel
theorem dX6_reads_48 : decode cX6_reads 48 = .ok (.aload_n 0, 1) := by decide +kernel
theorem dX6_reads_49 : decode cX6_reads 49 = .ok (.getfield 146, 3) := by decide +kernel
theorem dX6_reads_52 : decode cX6_reads 52 = .ok (.ifCond .ne 7, 3) := by decide +kernel
theorem dX6_reads_55 : decode cX6_reads 55 = .ok (.iconst 1, 1) := by decide +kernel
theorem dX6_reads_56 : decode cX6_reads 56 = .ok (.goto 4, 3) := by decide +kernel
theorem dX6_reads_59 : decode cX6_reads 59 = .ok (.iconst 0, 1) := by decide +kernel
theorem dX6_reads_60 : decode cX6_reads 60 = .ok (.if_icmp .eq 5, 3) := by decide +kernel
theorem dX6_reads_63 : decode cX6_reads 63 = .ok (.iconst 0, 1) := by decide +kernel
theorem dX6_reads_64 : decode cX6_reads 64 = .ok (.ireturn, 1) := by decide +kernel
theorem dX6_reads_65 : decode cX6_reads 65 = .ok (.aload_n 0, 1) := by decide +kernel
theorem dX6_reads_66 : decode cX6_reads 66 = .ok (.getfield 29, 3) := by decide +kernel
theorem dX6_reads_69 : decode cX6_reads 69 = .ok (.iconst 5, 1) := by decide +kernel
theorem dX6_reads_70 : decode cX6_reads 70 = .ok (.aload_n 0, 1) := by decide +kernel
theorem dX6_reads_71 : decode cX6_reads 71 = .ok (.getfield 146, 3) := by decide +kernel
theorem dX6_reads_74 : decode cX6_reads 74 = .ok (.imul, 1) := by decide +kernel
theorem dX6_reads_75 : decode cX6_reads 75 = .ok (.iload_n 1, 1) := by decide +kernel
theorem dX6_reads_76 : decode cX6_reads 76 = .ok (.iastore, 1) := by decide +kernel
theorem dX6_reads_77 : decode cX6_reads 77 = .ok (.aload_n 0, 1) := by decide +kernel
theorem dX6_reads_78 : decode cX6_reads 78 = .ok (.invokevirtual 149, 3) := by decide +kernel
theorem dX6_reads_81 : decode cX6_reads 81 = .ok (.iload_n 1, 1) := by decide +kernel
theorem dX6_reads_82 : decode cX6_reads 82 = .ok (.iconst 1, 1) := by decide +kernel
theorem dX6_reads_83 : decode cX6_reads 83 = .ok (.if_icmp .ne 7, 3) := by decide +kernel
theorem dX6_reads_86 : decode cX6_reads 86 = .ok (.iconst 4, 1) := by decide +kernel
theorem dX6_reads_87 : decode cX6_reads 87 = .ok (.goto 13, 3) := by decide +kernel
theorem dX6_reads_90 : decode cX6_reads 90 = .ok (.iload_n 1, 1) := by decide +kernel
theorem dX6_reads_91 : decode cX6_reads 91 = .ok (.iconst 3, 1) := by decide +kernel
theorem dX6_reads_92 : decode cX6_reads 92 = .ok (.if_icmp .ne 7, 3) := by decide +kernel
theorem dX6_reads_95 : decode cX6_reads 95 = .ok (.iconst 2, 1) := by decide +kernel
theorem dX6_reads_96 : decode cX6_reads 96 = .ok (.goto 4, 3) := by decide +kernel
theorem dX6_reads_99 : decode cX6_reads 99 = .ok (.iconst 1, 1) := by decide +kernel
theorem dX6_reads_100 : decode cX6_reads 100 = .ok (.istore_n 2, 1) := by decide +kernel
theorem dX6_reads_101 : decode cX6_reads 101 = .ok (.iconst 0, 1) := by decide +kernel
theorem dX6_reads_102 : decode cX6_reads 102 = .ok (.istore_n 3, 1) := by decide +kernel
theorem dX6_reads_103 : decode cX6_reads 103 = .ok (.iload_n 3, 1) := by decide +kernel
theorem dX6_reads_104 : decode cX6_reads 104 = .ok (.iload_n 2, 1) := by decide +kernel
theorem dX6_reads_105 : decode cX6_reads 105 = .ok (.if_icmp .ge 89, 3) := by decide +kernel
theorem dX6_reads_108 : decode cX6_reads 108 = .ok (.iload_n 1, 1) := by decide +kernel
theorem dX6_reads_109 : decode cX6_reads 109 = .ok (.iconst 1, 1) := by decide +kernel
theorem dX6_reads_110 : decode cX6_reads 110 = .ok (.if_icmp .ne 20, 3) := by decide +kernel
theorem dX6_reads_113 : decode cX6_reads 113 = .ok (.iload_n 3, 1) := by decide +kernel
theorem dX6_reads_114 : decode cX6_reads 114 = .ok (.iconst 3, 1) := by decide +kernel
theorem dX6_reads_115 : decode cX6_reads 115 = .ok (.if_icmp .ne 15, 3) := by decide +kernel
theorem dX6_reads_118 : decode cX6_reads 118 = .ok (.aload_n 0, 1) := by decide +kernel
theorem dX6_reads_119 : decode cX6_reads 119 = .ok (.getfield 132, 3) := by decide +kernel
theorem dX6_reads_122 : decode cX6_reads 122 = .ok (.iconst 4, 1) := by decide +kernel
theorem dX6_reads_123 : decode cX6_reads 123 = .ok (.if_icmp .ne 7, 3) := by decide +kernel
theorem dX6_reads_126 : decode cX6_reads 126 = .ok (.iconst 1, 1) := by decide +kernel
theorem dX6_reads_127 : decode cX6_reads 127 = .ok (.goto 4, 3) := by decide +kernel
theorem dX6_reads_130 : decode cX6_reads 130 = .ok (.iconst 0, 1) := by decide +kernel
theorem dX6_reads_131 : decode cX6_reads 131 = .ok (.istore 4, 2) := by decide +kernel
theorem dX6_reads_133 : decode cX6_reads 133 = .ok (.iload 4, 2) := by decide +kernel
theorem dX6_reads_135 : decode cX6_reads 135 = .ok (.ifCond .eq 7, 3) := by decide +kernel
theorem dX6_reads_138 : decode cX6_reads 138 = .ok (.aload_n 0, 1) := by decide +kernel
theorem dX6_reads_139 : decode cX6_reads 139 = .ok (.invokevirtual 149, 3) := by decide +kernel
theorem dX6_reads_142 : decode cX6_reads 142 = .ok (.aload_n 0, 1) := by decide +kernel
theorem dX6_reads_143 : decode cX6_reads 143 = .ok (.getfield 132, 3) := by decide +kernel
theorem dX6_reads_146 : decode cX6_reads 146 = .ok (.iconst 2, 1) := by decide +kernel
theorem dX6_reads_147 : decode cX6_reads 147 = .ok (.if_icmp .eq 5, 3) := by decide +kernel
theorem dX6_reads_150 : decode cX6_reads 150 = .ok (.iconst 0, 1) := by decide +kernel
theorem dX6_reads_151 : decode cX6_reads 151 = .ok (.ireturn, 1) := by decide +kernel
theorem dX6_reads_152 : decode cX6_reads 152 = .ok (.aload_n 0, 1) := by decide +kernel
theorem dX6_reads_153 : decode cX6_reads 153 = .ok (.getfield 29, 3) := by decide +kernel
theorem dX6_reads_156 : decode cX6_reads 156 = .ok (.iconst 5, 1) := by decide +kernel
theorem dX6_reads_157 : decode cX6_reads 157 = .ok (.aload_n 0, 1) := by decide +kernel
theorem dX6_reads_158 : decode cX6_reads 158 = .ok (.getfield 146, 3) := by decide +kernel
theorem dX6_reads_161 : decode cX6_reads 161 = .ok (.imul, 1) := by decide +kernel
theorem dX6_reads_162 : decode cX6_reads 162 = .ok (.iconst 1, 1) := by decide +kernel
theorem dX6_reads_163 : decode cX6_reads 163 = .ok (.iadd, 1) := by decide +kernel
theorem dX6_reads_164 : decode cX6_reads 164 = .ok (.iload_n 3, 1) := by decide +kernel
theorem dX6_reads_165 : decode cX6_reads 165 = .ok (.iadd, 1) := by decide +kernel
theorem dX6_reads_166 : decode cX6_reads 166 = .ok (.iload 4, 2) := by decide +kernel
theorem dX6_reads_168 : decode cX6_reads 168 = .ok (.ifCond .eq 11, 3) := by decide +kernel
theorem dX6_reads_171 : decode cX6_reads 171 = .ok (.aload_n 0, 1) := by decide +kernel
theorem dX6_reads_172 : decode cX6_reads 172 = .ok (.getfield 143, 3) := by decide +kernel
theorem dX6_reads_175 : decode cX6_reads 175 = .ok (.ineg, 1) := by decide +kernel
theorem dX6_reads_176 : decode cX6_reads 176 = .ok (.goto 7, 3) := by decide +kernel
theorem dX6_reads_179 : decode cX6_reads 179 = .ok (.aload_n 0, 1) := by decide +kernel
theorem dX6_reads_180 : decode cX6_reads 180 = .ok (.getfield 143, 3) := by decide +kernel
theorem dX6_reads_183 : decode cX6_reads 183 = .ok (.iastore, 1) := by decide +kernel
theorem dX6_reads_184 : decode cX6_reads 184 = .ok (.aload_n 0, 1) := by decide +kernel
theorem dX6_reads_185 : decode cX6_reads 185 = .ok (.invokevirtual 149, 3) := by decide +kernel
theorem dX6_reads_188 : decode cX6_reads 188 = .ok (.iinc 3 1, 3) := by decide +kernel
theorem dX6_reads_191 : decode cX6_reads 191 = .ok (.goto (-88), 3) := by decide +kernel
theorem dX6_reads_194 : decode cX6_reads 194 = .ok (.aload_n 0, 1) := by decide +kernel
theorem dX6_reads_195 : decode cX6_reads 195 = .ok (.getfield 132, 3) := by decide +kernel
theorem dX6_reads_198 : decode cX6_reads 198 = .ok (.iconst 3, 1) := by decide +kernel
theorem dX6_reads_199 : decode cX6_reads 199 = .ok (.if_icmp .eq 5, 3) := by decide +kernel
theorem dX6_reads_202 : decode cX6_reads 202 = .ok (.iconst 0, 1) := by decide +kernel
theorem dX6_reads_203 : decode cX6_reads 203 = .ok (.ireturn, 1) := by decide +kernel
theorem dX6_reads_204 : decode cX6_reads 204 = .ok (.aload_n 0, 1) := by decide +kernel
theorem dX6_reads_205 : decode cX6_reads 205 = .ok (.dup, 1) := by decide +kernel
theorem dX6_reads_206 : decode cX6_reads 206 = .ok (.getfield 146, 3) := by decide +kernel
theorem dX6_reads_209 : decode cX6_reads 209 = .ok (.iconst 1, 1) := by decide +kernel
theorem dX6_reads_210 : decode cX6_reads 210 = .ok (.iadd, 1) := by decide +kernel
theorem dX6_reads_211 : decode cX6_reads 211 = .ok (.putfield 146, 3) := by decide +kernel
theorem dX6_reads_214 : decode cX6_reads 214 = .ok (.aload_n 0, 1) := by decide +kernel
theorem dX6_reads_215 : decode cX6_reads 215 = .ok (.invokevirtual 149, 3) := by decide +kernel
theorem dX6_reads_218 : decode cX6_reads 218 = .ok (.goto (-204), 3) := by decide +kernel
theorem dX6_reads_221 : decode cX6_reads 221 = .ok (.iconst 1, 1) := by decide +kernel
theorem dX6_reads_222 : decode cX6_reads 222 = .ok (.ireturn, 1) := by decide +kernel
theorem dX6_tellsItem_0 : decode cX6_tellsItem 0 = .ok (.aload_n 0, 1) := by decide +kernel
theorem dX6_tellsItem_1 : decode cX6_tellsItem 1 = .ok (.getfield 29, 3) := by decide +kernel
theorem dX6_tellsItem_4 : decode cX6_tellsItem 4 = .ok (.iconst 5, 1) := by decide +kernel
theorem dX6_tellsItem_5 : decode cX6_tellsItem 5 = .ok (.iload_n 1, 1) := by decide +kernel
theorem dX6_tellsItem_6 : decode cX6_tellsItem 6 = .ok (.imul, 1) := by decide +kernel
theorem dX6_tellsItem_7 : decode cX6_tellsItem 7 = .ok (.iconst 1, 1) := by decide +kernel
theorem dX6_tellsItem_8 : decode cX6_tellsItem 8 = .ok (.iadd, 1) := by decide +kernel
theorem dX6_tellsItem_9 : decode cX6_tellsItem 9 = .ok (.iaload, 1) := by decide +kernel
theorem dX6_tellsItem_10 : decode cX6_tellsItem 10 = .ok (.istore_n 2, 1) := by decide +kernel
theorem dX6_tellsItem_11 : decode cX6_tellsItem 11 = .ok (.aload_n 0, 1) := by decide +kernel
theorem dX6_tellsItem_12 : decode cX6_tellsItem 12 = .ok (.getfield 29, 3) := by decide +kernel
theorem dX6_tellsItem_15 : decode cX6_tellsItem 15 = .ok (.iconst 5, 1) := by decide +kernel
theorem dX6_tellsItem_16 : decode cX6_tellsItem 16 = .ok (.iload_n 1, 1) := by decide +kernel
theorem dX6_tellsItem_17 : decode cX6_tellsItem 17 = .ok (.imul, 1) := by decide +kernel
theorem dX6_tellsItem_18 : decode cX6_tellsItem 18 = .ok (.iconst 2, 1) := by decide +kernel
theorem dX6_tellsItem_19 : decode cX6_tellsItem 19 = .ok (.iadd, 1) := by decide +kernel
theorem dX6_tellsItem_20 : decode cX6_tellsItem 20 = .ok (.iaload, 1) := by decide +kernel
theorem dX6_tellsItem_21 : decode cX6_tellsItem 21 = .ok (.istore_n 3, 1) := by decide +kernel
theorem dX6_tellsItem_22 : decode cX6_tellsItem 22 = .ok (.aload_n 0, 1) := by decide +kernel
theorem dX6_tellsItem_23 : decode cX6_tellsItem 23 = .ok (.getfield 29, 3) := by decide +kernel
theorem dX6_tellsItem_26 : decode cX6_tellsItem 26 = .ok (.iconst 5, 1) := by decide +kernel
theorem dX6_tellsItem_27 : decode cX6_tellsItem 27 = .ok (.iload_n 1, 1) := by decide +kernel
theorem dX6_tellsItem_28 : decode cX6_tellsItem 28 = .ok (.imul, 1) := by decide +kernel
theorem dX6_tellsItem_29 : decode cX6_tellsItem 29 = .ok (.iaload, 1) := by decide +kernel
theorem dX6_tellsItem_30 : decode cX6_tellsItem 30 = .ok (.istore 4, 2) := by decide +kernel
theorem dX6_tellsItem_32 : decode cX6_tellsItem 32 = .ok (.iload 4, 2) := by decide +kernel
theorem dX6_tellsItem_34 : decode cX6_tellsItem 34 = .ok (.ifCond .ne 11, 3) := by decide +kernel
theorem dX6_tellsItem_37 : decode cX6_tellsItem 37 = .ok (.aload_n 0, 1) := by decide +kernel
theorem dX6_tellsItem_38 : decode cX6_tellsItem 38 = .ok (.iload_n 2, 1) := by decide +kernel
theorem dX6_tellsItem_39 : decode cX6_tellsItem 39 = .ok (.invokevirtual 152, 3) := by decide +kernel
theorem dX6_tellsItem_42 : decode cX6_tellsItem 42 = .ok (.goto 73, 3) := by decide +kernel
theorem dX6_tellsItem_45 : decode cX6_tellsItem 45 = .ok (.iload 4, 2) := by decide +kernel
theorem dX6_tellsItem_47 : decode cX6_tellsItem 47 = .ok (.iconst 1, 1) := by decide +kernel
theorem dX6_tellsItem_48 : decode cX6_tellsItem 48 = .ok (.if_icmp .ne 32, 3) := by decide +kernel
theorem dX6_tellsItem_51 : decode cX6_tellsItem 51 = .ok (.aload_n 0, 1) := by decide +kernel
theorem dX6_tellsItem_52 : decode cX6_tellsItem 52 = .ok (.iload_n 2, 1) := by decide +kernel
theorem dX6_tellsItem_53 : decode cX6_tellsItem 53 = .ok (.iload_n 3, 1) := by decide +kernel
theorem dX6_tellsItem_54 : decode cX6_tellsItem 54 = .ok (.aload_n 0, 1) := by decide +kernel
theorem dX6_tellsItem_55 : decode cX6_tellsItem 55 = .ok (.getfield 29, 3) := by decide +kernel
theorem dX6_tellsItem_58 : decode cX6_tellsItem 58 = .ok (.iconst 5, 1) := by decide +kernel
theorem dX6_tellsItem_59 : decode cX6_tellsItem 59 = .ok (.iload_n 1, 1) := by decide +kernel
theorem dX6_tellsItem_60 : decode cX6_tellsItem 60 = .ok (.imul, 1) := by decide +kernel
theorem dX6_tellsItem_61 : decode cX6_tellsItem 61 = .ok (.iconst 3, 1) := by decide +kernel
theorem dX6_tellsItem_62 : decode cX6_tellsItem 62 = .ok (.iadd, 1) := by decide +kernel
theorem dX6_tellsItem_63 : decode cX6_tellsItem 63 = .ok (.iaload, 1) := by decide +kernel
theorem dX6_tellsItem_64 : decode cX6_tellsItem 64 = .ok (.aload_n 0, 1) := by decide +kernel
theorem dX6_tellsItem_65 : decode cX6_tellsItem 65 = .ok (.getfield 29, 3) := by decide +kernel
theorem dX6_tellsItem_68 : decode cX6_tellsItem 68 = .ok (.iconst 5, 1) := by decide +kernel
theorem dX6_tellsItem_69 : decode cX6_tellsItem 69 = .ok (.iload_n 1, 1) := by decide +kernel
theorem dX6_tellsItem_70 : decode cX6_tellsItem 70 = .ok (.imul, 1) := by decide +kernel
theorem dX6_tellsItem_71 : decode cX6_tellsItem 71 = .ok (.iconst 4, 1) := by decide +kernel
theorem dX6_tellsItem_72 : decode cX6_tellsItem 72 = .ok (.iadd, 1) := by decide +kernel
theorem dX6_tellsItem_73 : decode cX6_tellsItem 73 = .ok (.iaload, 1) := by decide +kernel
theorem dX6_tellsItem_74 : decode cX6_tellsItem 74 = .ok (.invokevirtual 155, 3) := by decide +kernel
theorem dX6_tellsItem_77 : decode cX6_tellsItem 77 = .ok (.goto 38, 3) := by decide +kernel
theorem dX6_tellsItem_80 : decode cX6_tellsItem 80 = .ok (.iload 4, 2) := by decide +kernel
theorem dX6_tellsItem_82 : decode cX6_tellsItem 82 = .ok (.iconst 2, 1) := by decide +kernel
theorem dX6_tellsItem_83 : decode cX6_tellsItem 83 = .ok (.if_icmp .ne 12, 3) := by decide +kernel
theorem dX6_tellsItem_86 : decode cX6_tellsItem 86 = .ok (.aload_n 0, 1) := by decide +kernel
theorem dX6_tellsItem_87 : decode cX6_tellsItem 87 = .ok (.iload_n 2, 1) := by decide +kernel
theorem dX6_tellsItem_88 : decode cX6_tellsItem 88 = .ok (.iconst 1, 1) := by decide +kernel
theorem dX6_tellsItem_89 : decode cX6_tellsItem 89 = .ok (.invokevirtual 159, 3) := by decide +kernel
theorem dX6_tellsItem_92 : decode cX6_tellsItem 92 = .ok (.goto 23, 3) := by decide +kernel
theorem dX6_tellsItem_95 : decode cX6_tellsItem 95 = .ok (.iload 4, 2) := by decide +kernel
theorem dX6_tellsItem_97 : decode cX6_tellsItem 97 = .ok (.iconst 3, 1) := by decide +kernel
theorem dX6_tellsItem_98 : decode cX6_tellsItem 98 = .ok (.if_icmp .ne 12, 3) := by decide +kernel
theorem dX6_tellsItem_101 : decode cX6_tellsItem 101 = .ok (.aload_n 0, 1) := by decide +kernel
theorem dX6_tellsItem_102 : decode cX6_tellsItem 102 = .ok (.iload_n 2, 1) := by decide +kernel
theorem dX6_tellsItem_103 : decode cX6_tellsItem 103 = .ok (.iload_n 3, 1) := by decide +kernel
theorem dX6_tellsItem_104 : decode cX6_tellsItem 104 = .ok (.invokevirtual 163, 3) := by decide +kernel
theorem dX6_tellsItem_107 : decode cX6_tellsItem 107 = .ok (.goto 8, 3) := by decide +kernel
theorem dX6_tellsItem_110 : decode cX6_tellsItem 110 = .ok (.aload_n 0, 1) := by decide +kernel
theorem dX6_tellsItem_111 : decode cX6_tellsItem 111 = .ok (.iload_n 2, 1) := by decide +kernel
theorem dX6_tellsItem_112 : decode cX6_tellsItem 112 = .ok (.invokevirtual 166, 3) := by decide +kernel
theorem dX6_tellsItem_115 : decode cX6_tellsItem 115 = .ok (.istore 5, 2) := by decide +kernel
theorem dX6_tellsItem_117 : decode cX6_tellsItem 117 = .ok (.iload 5, 2) := by decide +kernel
theorem dX6_tellsItem_119 : decode cX6_tellsItem 119 = .ok (.ifCond .lt 7, 3) := by decide +kernel
theorem dX6_tellsItem_122 : decode cX6_tellsItem 122 = .ok (.iconst 1, 1) := by decide +kernel
theorem dX6_tellsItem_123 : decode cX6_tellsItem 123 = .ok (.goto 4, 3) := by decide +kernel
theorem dX6_tellsItem_126 : decode cX6_tellsItem 126 = .ok (.iconst 0, 1) := by decide +kernel
theorem dX6_tellsItem_127 : decode cX6_tellsItem 127 = .ok (.ireturn, 1) := by decide +kernel
theorem dX6_read_0 : decode cX6_read 0 = .ok (.aload_n 0, 1) := by decide +kernel
theorem dX6_read_1 : decode cX6_read 1 = .ok (.invokevirtual 169, 3) := by decide +kernel
theorem dX6_read_4 : decode cX6_read 4 = .ok (.ifCond .ne 11, 3) := by decide +kernel
theorem dX6_read_7 : decode cX6_read 7 = .ok (.bipush (-10), 2) := by decide +kernel
theorem dX6_read_9 : decode cX6_read 9 = .ok (.aload_n 0, 1) := by decide +kernel
theorem dX6_read_10 : decode cX6_read 10 = .ok (.getfield 129, 3) := by decide +kernel
theorem dX6_read_13 : decode cX6_read 13 = .ok (.isub, 1) := by decide +kernel
theorem dX6_read_14 : decode cX6_read 14 = .ok (.ireturn, 1) := by decide +kernel
theorem dX6_read_15 : decode cX6_read 15 = .ok (.iconst 0, 1) := by decide +kernel
theorem dX6_read_16 : decode cX6_read 16 = .ok (.istore_n 1, 1) := by decide +kernel
theorem dX6_read_17 : decode cX6_read 17 = .ok (.iload_n 1, 1) := by decide +kernel
theorem dX6_read_18 : decode cX6_read 18 = .ok (.bipush 98, 2) := by decide +kernel
theorem dX6_read_20 : decode cX6_read 20 = .ok (.if_icmp .ge 21, 3) := by decide +kernel
theorem dX6_read_23 : decode cX6_read 23 = .ok (.aload_n 0, 1) := by decide +kernel
theorem dX6_read_24 : decode cX6_read 24 = .ok (.getfield 20, 3) := by decide +kernel
theorem dX6_read_27 : decode cX6_read 27 = .ok (.iload_n 1, 1) := by decide +kernel
theorem dX6_read_28 : decode cX6_read 28 = .ok (.aload_n 0, 1) := by decide +kernel
theorem dX6_read_29 : decode cX6_read 29 = .ok (.getfield 7, 3) := by decide +kernel
theorem dX6_read_32 : decode cX6_read 32 = .ok (.iload_n 1, 1) := by decide +kernel
theorem dX6_read_33 : decode cX6_read 33 = .ok (.iaload, 1) := by decide +kernel
theorem dX6_read_34 : decode cX6_read 34 = .ok (.iastore, 1) := by decide +kernel
theorem dX6_read_35 : decode cX6_read 35 = .ok (.iinc 1 1, 3) := by decide +kernel
theorem dX6_read_38 : decode cX6_read 38 = .ok (.goto (-21), 3) := by decide +kernel
theorem dX6_read_41 : decode cX6_read 41 = .ok (.aload_n 0, 1) := by decide +kernel
theorem dX6_read_42 : decode cX6_read 42 = .ok (.iconst 1, 1) := by decide +kernel
theorem dX6_read_43 : decode cX6_read 43 = .ok (.putfield 48, 3) := by decide +kernel
theorem dX6_read_46 : decode cX6_read 46 = .ok (.iconst 0, 1) := by decide +kernel
theorem dX6_read_47 : decode cX6_read 47 = .ok (.istore_n 1, 1) := by decide +kernel
theorem dX6_read_48 : decode cX6_read 48 = .ok (.iload_n 1, 1) := by decide +kernel
theorem dX6_read_49 : decode cX6_read 49 = .ok (.aload_n 0, 1) := by decide +kernel
theorem dX6_read_50 : decode cX6_read 50 = .ok (.getfield 146, 3) := by decide +kernel
theorem dX6_read_53 : decode cX6_read 53 = .ok (.if_icmp .ge 17, 3) := by decide +kernel
theorem dX6_read_56 : decode cX6_read 56 = .ok (.aload_n 0, 1) := by decide +kernel
theorem dX6_read_57 : decode cX6_read 57 = .ok (.iload_n 1, 1) := by decide +kernel
theorem dX6_read_58 : decode cX6_read 58 = .ok (.invokevirtual 173, 3) := by decide +kernel
theorem dX6_read_61 : decode cX6_read 61 = .ok (.ifCond .eq 9, 3) := by decide +kernel
theorem dX6_read_64 : decode cX6_read 64 = .ok (.iinc 1 1, 3) := by decide +kernel
theorem dX6_read_67 : decode cX6_read 67 = .ok (.goto (-19), 3) := by decide +kernel
theorem dX6_read_70 : decode cX6_read 70 = .ok (.aload_n 0, 1) := by decide +kernel
theorem dX6_read_71 : decode cX6_read 71 = .ok (.iconst 0, 1) := by decide +kernel
theorem dX6_read_72 : decode cX6_read 72 = .ok (.putfield 48, 3) := by decide +kernel
theorem dX6_read_75 : decode cX6_read 75 = .ok (.iload_n 1, 1) := by decide +kernel
theorem dX6_read_76 : decode cX6_read 76 = .ok (.aload_n 0, 1) := by decide +kernel
theorem dX6_read_77 : decode cX6_read 77 = .ok (.getfield 146, 3) := by decide +kernel
theorem dX6_read_80 : decode cX6_read 80 = .ok (.if_icmp .ne 8, 3) := by decide +kernel
theorem dX6_read_83 : decode cX6_read 83 = .ok (.aload_n 0, 1) := by decide +kernel
theorem dX6_read_84 : decode cX6_read 84 = .ok (.getfield 146, 3) := by decide +kernel
theorem dX6_read_87 : decode cX6_read 87 = .ok (.ireturn, 1) := by decide +kernel
theorem dX6_read_88 : decode cX6_read 88 = .ok (.iconst 0, 1) := by decide +kernel
theorem dX6_read_89 : decode cX6_read 89 = .ok (.istore_n 2, 1) := by decide +kernel
theorem dX6_read_90 : decode cX6_read 90 = .ok (.iload_n 2, 1) := by decide +kernel
theorem dX6_read_91 : decode cX6_read 91 = .ok (.bipush 98, 2) := by decide +kernel
theorem dX6_read_93 : decode cX6_read 93 = .ok (.if_icmp .ge 21, 3) := by decide +kernel
theorem dX6_read_96 : decode cX6_read 96 = .ok (.aload_n 0, 1) := by decide +kernel
theorem dX6_read_97 : decode cX6_read 97 = .ok (.getfield 7, 3) := by decide +kernel
theorem dX6_read_100 : decode cX6_read 100 = .ok (.iload_n 2, 1) := by decide +kernel
theorem dX6_read_101 : decode cX6_read 101 = .ok (.aload_n 0, 1) := by decide +kernel
theorem dX6_read_102 : decode cX6_read 102 = .ok (.getfield 20, 3) := by decide +kernel
theorem dX6_read_105 : decode cX6_read 105 = .ok (.iload_n 2, 1) := by decide +kernel
theorem dX6_read_106 : decode cX6_read 106 = .ok (.iaload, 1) := by decide +kernel
theorem dX6_read_107 : decode cX6_read 107 = .ok (.iastore, 1) := by decide +kernel
theorem dX6_read_108 : decode cX6_read 108 = .ok (.iinc 2 1, 3) := by decide +kernel
theorem dX6_read_111 : decode cX6_read 111 = .ok (.goto (-21), 3) := by decide +kernel
theorem dX6_read_114 : decode cX6_read 114 = .ok (.sipush (-1000), 3) := by decide +kernel
theorem dX6_read_117 : decode cX6_read 117 = .ok (.iload_n 1, 1) := by decide +kernel
theorem dX6_read_118 : decode cX6_read 118 = .ok (.isub, 1) := by decide +kernel
theorem dX6_read_119 : decode cX6_read 119 = .ok (.ireturn, 1) := by decide +kernel
theorem dX6_pull_0 : decode cX6_pull 0 = .ok (.aload_n 0, 1) := by decide +kernel
theorem dX6_pull_1 : decode cX6_pull 1 = .ok (.iload_n 1, 1) := by decide +kernel
theorem dX6_pull_2 : decode cX6_pull 2 = .ok (.invokevirtual 83, 3) := by decide +kernel
theorem dX6_pull_5 : decode cX6_pull 5 = .ok (.ifCond .ne 8, 3) := by decide +kernel
theorem dX6_pull_8 : decode cX6_pull 8 = .ok (.aload_n 0, 1) := by decide +kernel
theorem dX6_pull_9 : decode cX6_pull 9 = .ok (.invokevirtual 79, 3) := by decide +kernel
theorem dX6_pull_12 : decode cX6_pull 12 = .ok (.ireturn, 1) := by decide +kernel
theorem dX6_pull_13 : decode cX6_pull 13 = .ok (.aload_n 0, 1) := by decide +kernel
theorem dX6_pull_14 : decode cX6_pull 14 = .ok (.getfield 7, 3) := by decide +kernel
theorem dX6_pull_17 : decode cX6_pull 17 = .ok (.bipush 8, 2) := by decide +kernel
theorem dX6_pull_19 : decode cX6_pull 19 = .ok (.iaload, 1) := by decide +kernel
theorem dX6_pull_20 : decode cX6_pull 20 = .ok (.bipush 20, 2) := by decide +kernel
theorem dX6_pull_22 : decode cX6_pull 22 = .ok (.if_icmp .ne 48, 3) := by decide +kernel
theorem dX6_pull_25 : decode cX6_pull 25 = .ok (.iconst 1, 1) := by decide +kernel
theorem dX6_pull_26 : decode cX6_pull 26 = .ok (.istore_n 2, 1) := by decide +kernel
theorem dX6_pull_27 : decode cX6_pull 27 = .ok (.iload_n 2, 1) := by decide +kernel
theorem dX6_pull_28 : decode cX6_pull 28 = .ok (.bipush 20, 2) := by decide +kernel
theorem dX6_pull_30 : decode cX6_pull 30 = .ok (.if_icmp .ge 29, 3) := by decide +kernel
theorem dX6_pull_33 : decode cX6_pull 33 = .ok (.aload_n 0, 1) := by decide +kernel
theorem dX6_pull_34 : decode cX6_pull 34 = .ok (.getfield 7, 3) := by decide +kernel
theorem dX6_pull_37 : decode cX6_pull 37 = .ok (.bipush 78, 2) := by decide +kernel
theorem dX6_pull_39 : decode cX6_pull 39 = .ok (.iload_n 2, 1) := by decide +kernel
theorem dX6_pull_40 : decode cX6_pull 40 = .ok (.iadd, 1) := by decide +kernel
theorem dX6_pull_41 : decode cX6_pull 41 = .ok (.iconst 1, 1) := by decide +kernel
theorem dX6_pull_42 : decode cX6_pull 42 = .ok (.isub, 1) := by decide +kernel
theorem dX6_pull_43 : decode cX6_pull 43 = .ok (.aload_n 0, 1) := by decide +kernel
theorem dX6_pull_44 : decode cX6_pull 44 = .ok (.getfield 7, 3) := by decide +kernel
theorem dX6_pull_47 : decode cX6_pull 47 = .ok (.bipush 78, 2) := by decide +kernel
theorem dX6_pull_49 : decode cX6_pull 49 = .ok (.iload_n 2, 1) := by decide +kernel
theorem dX6_pull_50 : decode cX6_pull 50 = .ok (.iadd, 1) := by decide +kernel
theorem dX6_pull_51 : decode cX6_pull 51 = .ok (.iaload, 1) := by decide +kernel
theorem dX6_pull_52 : decode cX6_pull 52 = .ok (.iastore, 1) := by decide +kernel
theorem dX6_pull_53 : decode cX6_pull 53 = .ok (.iinc 2 1, 3) := by decide +kernel
theorem dX6_pull_56 : decode cX6_pull 56 = .ok (.goto (-29), 3) := by decide +kernel
theorem dX6_pull_59 : decode cX6_pull 59 = .ok (.aload_n 0, 1) := by decide +kernel
theorem dX6_pull_60 : decode cX6_pull 60 = .ok (.getfield 7, 3) := by decide +kernel
theorem dX6_pull_63 : decode cX6_pull 63 = .ok (.bipush 8, 2) := by decide +kernel
theorem dX6_pull_65 : decode cX6_pull 65 = .ok (.dup2, 1) := by decide +kernel
theorem dX6_pull_66 : decode cX6_pull 66 = .ok (.iaload, 1) := by decide +kernel
theorem dX6_pull_67 : decode cX6_pull 67 = .ok (.iconst 1, 1) := by decide +kernel
theorem dX6_pull_68 : decode cX6_pull 68 = .ok (.isub, 1) := by decide +kernel
theorem dX6_pull_69 : decode cX6_pull 69 = .ok (.iastore, 1) := by decide +kernel
theorem dX6_pull_70 : decode cX6_pull 70 = .ok (.aload_n 0, 1) := by decide +kernel
theorem dX6_pull_71 : decode cX6_pull 71 = .ok (.getfield 7, 3) := by decide +kernel
theorem dX6_pull_74 : decode cX6_pull 74 = .ok (.bipush 78, 2) := by decide +kernel
theorem dX6_pull_76 : decode cX6_pull 76 = .ok (.aload_n 0, 1) := by decide +kernel
theorem dX6_pull_77 : decode cX6_pull 77 = .ok (.getfield 7, 3) := by decide +kernel
theorem dX6_pull_80 : decode cX6_pull 80 = .ok (.bipush 8, 2) := by decide +kernel
theorem dX6_pull_82 : decode cX6_pull 82 = .ok (.iaload, 1) := by decide +kernel
theorem dX6_pull_83 : decode cX6_pull 83 = .ok (.iadd, 1) := by decide +kernel
theorem dX6_pull_84 : decode cX6_pull 84 = .ok (.aload_n 0, 1) := by decide +kernel
theorem dX6_pull_85 : decode cX6_pull 85 = .ok (.getfield 7, 3) := by decide +kernel
theorem dX6_pull_88 : decode cX6_pull 88 = .ok (.bipush 7, 2) := by decide +kernel
theorem dX6_pull_90 : decode cX6_pull 90 = .ok (.iaload, 1) := by decide +kernel
theorem dX6_pull_91 : decode cX6_pull 91 = .ok (.iastore, 1) := by decide +kernel
theorem dX6_pull_92 : decode cX6_pull 92 = .ok (.aload_n 0, 1) := by decide +kernel
theorem dX6_pull_93 : decode cX6_pull 93 = .ok (.getfield 7, 3) := by decide +kernel
theorem dX6_pull_96 : decode cX6_pull 96 = .ok (.bipush 8, 2) := by decide +kernel
theorem dX6_pull_98 : decode cX6_pull 98 = .ok (.dup2, 1) := by decide +kernel
theorem dX6_pull_99 : decode cX6_pull 99 = .ok (.iaload, 1) := by decide +kernel
theorem dX6_pull_100 : decode cX6_pull 100 = .ok (.iconst 1, 1) := by decide +kernel
theorem dX6_pull_101 : decode cX6_pull 101 = .ok (.iadd, 1) := by decide +kernel
theorem dX6_pull_102 : decode cX6_pull 102 = .ok (.iastore, 1) := by decide +kernel
theorem dX6_pull_103 : decode cX6_pull 103 = .ok (.aload_n 0, 1) := by decide +kernel
theorem dX6_pull_104 : decode cX6_pull 104 = .ok (.getfield 7, 3) := by decide +kernel
theorem dX6_pull_107 : decode cX6_pull 107 = .ok (.bipush 7, 2) := by decide +kernel
theorem dX6_pull_109 : decode cX6_pull 109 = .ok (.aload_n 0, 1) := by decide +kernel
theorem dX6_pull_110 : decode cX6_pull 110 = .ok (.aload_n 0, 1) := by decide +kernel
theorem dX6_pull_111 : decode cX6_pull 111 = .ok (.getfield 7, 3) := by decide +kernel
theorem dX6_pull_114 : decode cX6_pull 114 = .ok (.bipush 7, 2) := by decide +kernel
theorem dX6_pull_116 : decode cX6_pull 116 = .ok (.iaload, 1) := by decide +kernel
theorem dX6_pull_117 : decode cX6_pull 117 = .ok (.iload_n 1, 1) := by decide +kernel
theorem dX6_pull_118 : decode cX6_pull 118 = .ok (.aload_n 0, 1) := by decide +kernel
theorem dX6_pull_119 : decode cX6_pull 119 = .ok (.invokevirtual 176, 3) := by decide +kernel
theorem dX6_pull_122 : decode cX6_pull 122 = .ok (.invokevirtual 179, 3) := by decide +kernel
theorem dX6_pull_125 : decode cX6_pull 125 = .ok (.iastore, 1) := by decide +kernel
theorem dX6_pull_126 : decode cX6_pull 126 = .ok (.aload_n 0, 1) := by decide +kernel
theorem dX6_pull_127 : decode cX6_pull 127 = .ok (.getfield 7, 3) := by decide +kernel
theorem dX6_pull_130 : decode cX6_pull 130 = .ok (.bipush 7, 2) := by decide +kernel
theorem dX6_pull_132 : decode cX6_pull 132 = .ok (.iaload, 1) := by decide +kernel
theorem dX6_pull_133 : decode cX6_pull 133 = .ok (.ireturn, 1) := by decide +kernel
theorem dX6_undo_0 : decode cX6_undo 0 = .ok (.aload_n 0, 1) := by decide +kernel
theorem dX6_undo_1 : decode cX6_undo 1 = .ok (.getfield 7, 3) := by decide +kernel
theorem dX6_undo_4 : decode cX6_undo 4 = .ok (.bipush 8, 2) := by decide +kernel
theorem dX6_undo_6 : decode cX6_undo 6 = .ok (.iaload, 1) := by decide +kernel
theorem dX6_undo_7 : decode cX6_undo 7 = .ok (.ifCond .ne 8, 3) := by decide +kernel
theorem dX6_undo_10 : decode cX6_undo 10 = .ok (.aload_n 0, 1) := by decide +kernel
theorem dX6_undo_11 : decode cX6_undo 11 = .ok (.invokevirtual 98, 3) := by decide +kernel
theorem dX6_undo_14 : decode cX6_undo 14 = .ok (.ireturn, 1) := by decide +kernel
theorem dX6_undo_15 : decode cX6_undo 15 = .ok (.aload_n 0, 1) := by decide +kernel
theorem dX6_undo_16 : decode cX6_undo 16 = .ok (.getfield 7, 3) := by decide +kernel
theorem dX6_undo_19 : decode cX6_undo 19 = .ok (.bipush 8, 2) := by decide +kernel
theorem dX6_undo_21 : decode cX6_undo 21 = .ok (.dup2, 1) := by decide +kernel
theorem dX6_undo_22 : decode cX6_undo 22 = .ok (.iaload, 1) := by decide +kernel
theorem dX6_undo_23 : decode cX6_undo 23 = .ok (.iconst 1, 1) := by decide +kernel
theorem dX6_undo_24 : decode cX6_undo 24 = .ok (.isub, 1) := by decide +kernel
theorem dX6_undo_25 : decode cX6_undo 25 = .ok (.iastore, 1) := by decide +kernel
theorem dX6_undo_26 : decode cX6_undo 26 = .ok (.aload_n 0, 1) := by decide +kernel
theorem dX6_undo_27 : decode cX6_undo 27 = .ok (.getfield 7, 3) := by decide +kernel
theorem dX6_undo_30 : decode cX6_undo 30 = .ok (.bipush 7, 2) := by decide +kernel
theorem dX6_undo_32 : decode cX6_undo 32 = .ok (.aload_n 0, 1) := by decide +kernel
theorem dX6_undo_33 : decode cX6_undo 33 = .ok (.getfield 7, 3) := by decide +kernel
theorem dX6_undo_36 : decode cX6_undo 36 = .ok (.bipush 78, 2) := by decide +kernel
theorem dX6_undo_38 : decode cX6_undo 38 = .ok (.aload_n 0, 1) := by decide +kernel
theorem dX6_undo_39 : decode cX6_undo 39 = .ok (.getfield 7, 3) := by decide +kernel
theorem dX6_undo_42 : decode cX6_undo 42 = .ok (.bipush 8, 2) := by decide +kernel
theorem dX6_undo_44 : decode cX6_undo 44 = .ok (.iaload, 1) := by decide +kernel
theorem dX6_undo_45 : decode cX6_undo 45 = .ok (.iadd, 1) := by decide +kernel
theorem dX6_undo_46 : decode cX6_undo 46 = .ok (.iaload, 1) := by decide +kernel
theorem dX6_undo_47 : decode cX6_undo 47 = .ok (.iastore, 1) := by decide +kernel
theorem dX6_undo_48 : decode cX6_undo 48 = .ok (.aload_n 0, 1) := by decide +kernel
theorem dX6_undo_49 : decode cX6_undo 49 = .ok (.getfield 7, 3) := by decide +kernel
theorem dX6_undo_52 : decode cX6_undo 52 = .ok (.bipush 7, 2) := by decide +kernel
theorem dX6_undo_54 : decode cX6_undo 54 = .ok (.iaload, 1) := by decide +kernel
theorem dX6_undo_55 : decode cX6_undo 55 = .ok (.ireturn, 1) := by decide +kernel
theorem dX6_isState_0 : decode cX6_isState 0 = .ok (.iload_n 1, 1) := by decide +kernel
theorem dX6_isState_1 : decode cX6_isState 1 = .ok (.i2l, 1) := by decide +kernel
theorem dX6_isState_2 : decode cX6_isState 2 = .ok (.lconst 0, 1) := by decide +kernel
theorem dX6_isState_3 : decode cX6_isState 3 = .ok (.aload_n 0, 1) := by decide +kernel
theorem dX6_isState_4 : decode cX6_isState 4 = .ok (.invokevirtual 183, 3) := by decide +kernel
theorem dX6_isState_7 : decode cX6_isState 7 = .ok (.iconst 1, 1) := by decide +kernel
theorem dX6_isState_8 : decode cX6_isState 8 = .ok (.isub, 1) := by decide +kernel
theorem dX6_isState_9 : decode cX6_isState 9 = .ok (.i2l, 1) := by decide +kernel
theorem dX6_isState_10 : decode cX6_isState 10 = .ok (.invokestatic 56, 3) := by decide +kernel
theorem dX6_isState_13 : decode cX6_isState 13 = .ok (.ireturn, 1) := by decide +kernel
theorem dX6_behind_0 : decode cX6_behind 0 = .ok (.aload_n 0, 1) := by decide +kernel
theorem dX6_behind_1 : decode cX6_behind 1 = .ok (.iload_n 1, 1) := by decide +kernel
theorem dX6_behind_2 : decode cX6_behind 2 = .ok (.invokevirtual 186, 3) := by decide +kernel
theorem dX6_behind_5 : decode cX6_behind 5 = .ok (.ifCond .eq 24, 3) := by decide +kernel
theorem dX6_behind_8 : decode cX6_behind 8 = .ok (.aload_n 0, 1) := by decide +kernel
theorem dX6_behind_9 : decode cX6_behind 9 = .ok (.iload_n 2, 1) := by decide +kernel
theorem dX6_behind_10 : decode cX6_behind 10 = .ok (.invokevirtual 83, 3) := by decide +kernel
theorem dX6_behind_13 : decode cX6_behind 13 = .ok (.ifCond .eq 16, 3) := by decide +kernel
theorem dX6_behind_16 : decode cX6_behind 16 = .ok (.aload_n 0, 1) := by decide +kernel
theorem dX6_behind_17 : decode cX6_behind 17 = .ok (.iload_n 1, 1) := by decide +kernel
theorem dX6_behind_18 : decode cX6_behind 18 = .ok (.iload_n 2, 1) := by decide +kernel
theorem dX6_behind_19 : decode cX6_behind 19 = .ok (.aload_n 0, 1) := by decide +kernel
theorem dX6_behind_20 : decode cX6_behind 20 = .ok (.invokevirtual 176, 3) := by decide +kernel
theorem dX6_behind_23 : decode cX6_behind 23 = .ok (.invokevirtual 179, 3) := by decide +kernel
theorem dX6_behind_26 : decode cX6_behind 26 = .ok (.goto 7, 3) := by decide +kernel
theorem dX6_behind_29 : decode cX6_behind 29 = .ok (.aload_n 0, 1) := by decide +kernel
theorem dX6_behind_30 : decode cX6_behind 30 = .ok (.invokevirtual 79, 3) := by decide +kernel
theorem dX6_behind_33 : decode cX6_behind 33 = .ok (.ireturn, 1) := by decide +kernel
theorem dX6_out_0 : decode cX6_out 0 = .ok (.aload_n 0, 1) := by decide +kernel
theorem dX6_out_1 : decode cX6_out 1 = .ok (.iload_n 1, 1) := by decide +kernel
theorem dX6_out_2 : decode cX6_out 2 = .ok (.invokevirtual 83, 3) := by decide +kernel
theorem dX6_out_5 : decode cX6_out 5 = .ok (.ifCond .eq 17, 3) := by decide +kernel
theorem dX6_out_8 : decode cX6_out 8 = .ok (.aload_n 0, 1) := by decide +kernel
theorem dX6_out_9 : decode cX6_out 9 = .ok (.getfield 7, 3) := by decide +kernel
theorem dX6_out_12 : decode cX6_out 12 = .ok (.bipush 7, 2) := by decide +kernel
theorem dX6_out_14 : decode cX6_out 14 = .ok (.iaload, 1) := by decide +kernel
theorem dX6_out_15 : decode cX6_out 15 = .ok (.iload_n 1, 1) := by decide +kernel
theorem dX6_out_16 : decode cX6_out 16 = .ok (.invokestatic 64, 3) := by decide +kernel
theorem dX6_out_19 : decode cX6_out 19 = .ok (.goto 7, 3) := by decide +kernel
theorem dX6_out_22 : decode cX6_out 22 = .ok (.aload_n 0, 1) := by decide +kernel
theorem dX6_out_23 : decode cX6_out 23 = .ok (.invokevirtual 79, 3) := by decide +kernel
theorem dX6_out_26 : decode cX6_out 26 = .ok (.ireturn, 1) := by decide +kernel
theorem dX6_lays_0 : decode cX6_lays 0 = .ok (.iconst 0, 1) := by decide +kernel
theorem dX6_lays_1 : decode cX6_lays 1 = .ok (.istore_n 1, 1) := by decide +kernel
theorem dX6_lays_2 : decode cX6_lays 2 = .ok (.iload_n 1, 1) := by decide +kernel
theorem dX6_lays_3 : decode cX6_lays 3 = .ok (.aload_n 0, 1) := by decide +kernel
theorem dX6_lays_4 : decode cX6_lays 4 = .ok (.invokevirtual 183, 3) := by decide +kernel
theorem dX6_lays_7 : decode cX6_lays 7 = .ok (.if_icmp .ge 48, 3) := by decide +kernel
theorem dX6_lays_10 : decode cX6_lays 10 = .ok (.iconst 0, 1) := by decide +kernel
theorem dX6_lays_11 : decode cX6_lays 11 = .ok (.istore_n 2, 1) := by decide +kernel
theorem dX6_lays_12 : decode cX6_lays 12 = .ok (.iload_n 2, 1) := by decide +kernel
theorem dX6_lays_13 : decode cX6_lays 13 = .ok (.aload_n 0, 1) := by decide +kernel
theorem dX6_lays_14 : decode cX6_lays 14 = .ok (.getfield 7, 3) := by decide +kernel
theorem dX6_lays_17 : decode cX6_lays 17 = .ok (.iconst 0, 1) := by decide +kernel
theorem dX6_lays_18 : decode cX6_lays 18 = .ok (.iaload, 1) := by decide +kernel
theorem dX6_lays_19 : decode cX6_lays 19 = .ok (.if_icmp .ge 30, 3) := by decide +kernel
theorem dX6_lays_22 : decode cX6_lays 22 = .ok (.aload_n 0, 1) := by decide +kernel
theorem dX6_lays_23 : decode cX6_lays 23 = .ok (.getfield 32, 3) := by decide +kernel
theorem dX6_lays_26 : decode cX6_lays 26 = .ok (.bipush 7, 2) := by decide +kernel
theorem dX6_lays_28 : decode cX6_lays 28 = .ok (.iload_n 1, 1) := by decide +kernel
theorem dX6_lays_29 : decode cX6_lays 29 = .ok (.imul, 1) := by decide +kernel
theorem dX6_lays_30 : decode cX6_lays 30 = .ok (.iload_n 2, 1) := by decide +kernel
theorem dX6_lays_31 : decode cX6_lays 31 = .ok (.iadd, 1) := by decide +kernel
theorem dX6_lays_32 : decode cX6_lays 32 = .ok (.aload_n 0, 1) := by decide +kernel
theorem dX6_lays_33 : decode cX6_lays 33 = .ok (.iload_n 1, 1) := by decide +kernel
theorem dX6_lays_34 : decode cX6_lays 34 = .ok (.iload_n 2, 1) := by decide +kernel
theorem dX6_lays_35 : decode cX6_lays 35 = .ok (.aload_n 0, 1) := by decide +kernel
theorem dX6_lays_36 : decode cX6_lays 36 = .ok (.invokevirtual 176, 3) := by decide +kernel
theorem dX6_lays_39 : decode cX6_lays 39 = .ok (.invokevirtual 179, 3) := by decide +kernel
theorem dX6_lays_42 : decode cX6_lays 42 = .ok (.iastore, 1) := by decide +kernel
theorem dX6_lays_43 : decode cX6_lays 43 = .ok (.iinc 2 1, 3) := by decide +kernel
theorem dX6_lays_46 : decode cX6_lays 46 = .ok (.goto (-34), 3) := by decide +kernel
theorem dX6_lays_49 : decode cX6_lays 49 = .ok (.iinc 1 1, 3) := by decide +kernel
theorem dX6_lays_52 : decode cX6_lays 52 = .ok (.goto (-50), 3) := by decide +kernel
theorem dX6_lays_55 : decode cX6_lays 55 = .ok (.return_, 1) := by decide +kernel
theorem dX6_isDanger_0 : decode cX6_isDanger 0 = .ok (.iconst 0, 1) := by decide +kernel
theorem dX6_isDanger_1 : decode cX6_isDanger 1 = .ok (.istore_n 2, 1) := by decide +kernel
theorem dX6_isDanger_2 : decode cX6_isDanger 2 = .ok (.iconst 0, 1) := by decide +kernel
theorem dX6_isDanger_3 : decode cX6_isDanger 3 = .ok (.istore_n 3, 1) := by decide +kernel
theorem dX6_isDanger_4 : decode cX6_isDanger 4 = .ok (.iload_n 3, 1) := by decide +kernel
theorem dX6_isDanger_5 : decode cX6_isDanger 5 = .ok (.aload_n 0, 1) := by decide +kernel
theorem dX6_isDanger_6 : decode cX6_isDanger 6 = .ok (.getfield 7, 3) := by decide +kernel
theorem dX6_isDanger_9 : decode cX6_isDanger 9 = .ok (.iconst 0, 1) := by decide +kernel
theorem dX6_isDanger_10 : decode cX6_isDanger 10 = .ok (.iaload, 1) := by decide +kernel
theorem dX6_isDanger_11 : decode cX6_isDanger 11 = .ok (.if_icmp .ge 172, 3) := by decide +kernel
theorem dX6_isDanger_14 : decode cX6_isDanger 14 = .ok (.iload_n 1, 1) := by decide +kernel
theorem dX6_isDanger_15 : decode cX6_isDanger 15 = .ok (.iload_n 3, 1) := by decide +kernel
theorem dX6_isDanger_16 : decode cX6_isDanger 16 = .ok (.invokestatic 64, 3) := by decide +kernel
theorem dX6_isDanger_19 : decode cX6_isDanger 19 = .ok (.iconst 2, 1) := by decide +kernel
theorem dX6_isDanger_20 : decode cX6_isDanger 20 = .ok (.if_icmp .ne 29, 3) := by decide +kernel
theorem dX6_isDanger_23 : decode cX6_isDanger 23 = .ok (.aload_n 0, 1) := by decide +kernel
theorem dX6_isDanger_24 : decode cX6_isDanger 24 = .ok (.getfield 7, 3) := by decide +kernel
theorem dX6_isDanger_27 : decode cX6_isDanger 27 = .ok (.iconst 5, 1) := by decide +kernel
theorem dX6_isDanger_28 : decode cX6_isDanger 28 = .ok (.iaload, 1) := by decide +kernel
theorem dX6_isDanger_29 : decode cX6_isDanger 29 = .ok (.aload_n 0, 1) := by decide +kernel
theorem dX6_isDanger_30 : decode cX6_isDanger 30 = .ok (.getfield 7, 3) := by decide +kernel
theorem dX6_isDanger_33 : decode cX6_isDanger 33 = .ok (.bipush 9, 2) := by decide +kernel
theorem dX6_isDanger_35 : decode cX6_isDanger 35 = .ok (.iload_n 3, 1) := by decide +kernel
theorem dX6_isDanger_36 : decode cX6_isDanger 36 = .ok (.iadd, 1) := by decide +kernel
theorem dX6_isDanger_37 : decode cX6_isDanger 37 = .ok (.iaload, 1) := by decide +kernel
theorem dX6_isDanger_38 : decode cX6_isDanger 38 = .ok (.ishr, 1) := by decide +kernel
theorem dX6_isDanger_39 : decode cX6_isDanger 39 = .ok (.iconst 1, 1) := by decide +kernel
theorem dX6_isDanger_40 : decode cX6_isDanger 40 = .ok (.iand, 1) := by decide +kernel
theorem dX6_isDanger_41 : decode cX6_isDanger 41 = .ok (.iconst 1, 1) := by decide +kernel
theorem dX6_isDanger_42 : decode cX6_isDanger 42 = .ok (.if_icmp .ne 7, 3) := by decide +kernel
theorem dX6_isDanger_45 : decode cX6_isDanger 45 = .ok (.iconst 1, 1) := by decide +kernel
theorem dX6_isDanger_46 : decode cX6_isDanger 46 = .ok (.goto 4, 3) := by decide +kernel
theorem dX6_isDanger_49 : decode cX6_isDanger 49 = .ok (.iconst 0, 1) := by decide +kernel
theorem dX6_isDanger_50 : decode cX6_isDanger 50 = .ok (.istore 4, 2) := by decide +kernel
theorem dX6_isDanger_52 : decode cX6_isDanger 52 = .ok (.iload_n 3, 1) := by decide +kernel
theorem dX6_isDanger_53 : decode cX6_isDanger 53 = .ok (.ifCond .le 42, 3) := by decide +kernel
theorem dX6_isDanger_56 : decode cX6_isDanger 56 = .ok (.iload_n 1, 1) := by decide +kernel
theorem dX6_isDanger_57 : decode cX6_isDanger 57 = .ok (.iload_n 3, 1) := by decide +kernel
theorem dX6_isDanger_58 : decode cX6_isDanger 58 = .ok (.iconst 1, 1) := by decide +kernel
theorem dX6_isDanger_59 : decode cX6_isDanger 59 = .ok (.isub, 1) := by decide +kernel
theorem dX6_isDanger_60 : decode cX6_isDanger 60 = .ok (.invokestatic 64, 3) := by decide +kernel
theorem dX6_isDanger_63 : decode cX6_isDanger 63 = .ok (.ifCond .le 32, 3) := by decide +kernel
theorem dX6_isDanger_66 : decode cX6_isDanger 66 = .ok (.aload_n 0, 1) := by decide +kernel
theorem dX6_isDanger_67 : decode cX6_isDanger 67 = .ok (.getfield 7, 3) := by decide +kernel
theorem dX6_isDanger_70 : decode cX6_isDanger 70 = .ok (.bipush 6, 2) := by decide +kernel
theorem dX6_isDanger_72 : decode cX6_isDanger 72 = .ok (.iaload, 1) := by decide +kernel
theorem dX6_isDanger_73 : decode cX6_isDanger 73 = .ok (.aload_n 0, 1) := by decide +kernel
theorem dX6_isDanger_74 : decode cX6_isDanger 74 = .ok (.getfield 7, 3) := by decide +kernel
theorem dX6_isDanger_77 : decode cX6_isDanger 77 = .ok (.bipush 9, 2) := by decide +kernel
theorem dX6_isDanger_79 : decode cX6_isDanger 79 = .ok (.iload_n 3, 1) := by decide +kernel
theorem dX6_isDanger_80 : decode cX6_isDanger 80 = .ok (.iadd, 1) := by decide +kernel
theorem dX6_isDanger_81 : decode cX6_isDanger 81 = .ok (.iconst 1, 1) := by decide +kernel
theorem dX6_isDanger_82 : decode cX6_isDanger 82 = .ok (.isub, 1) := by decide +kernel
theorem dX6_isDanger_83 : decode cX6_isDanger 83 = .ok (.iaload, 1) := by decide +kernel
theorem dX6_isDanger_84 : decode cX6_isDanger 84 = .ok (.ishr, 1) := by decide +kernel
theorem dX6_isDanger_85 : decode cX6_isDanger 85 = .ok (.iconst 1, 1) := by decide +kernel
theorem dX6_isDanger_86 : decode cX6_isDanger 86 = .ok (.iand, 1) := by decide +kernel
theorem dX6_isDanger_87 : decode cX6_isDanger 87 = .ok (.iconst 1, 1) := by decide +kernel
theorem dX6_isDanger_88 : decode cX6_isDanger 88 = .ok (.if_icmp .ne 7, 3) := by decide +kernel
theorem dX6_isDanger_91 : decode cX6_isDanger 91 = .ok (.iconst 1, 1) := by decide +kernel
theorem dX6_isDanger_92 : decode cX6_isDanger 92 = .ok (.goto 4, 3) := by decide +kernel
theorem dX6_isDanger_95 : decode cX6_isDanger 95 = .ok (.iconst 0, 1) := by decide +kernel
theorem dX6_isDanger_96 : decode cX6_isDanger 96 = .ok (.istore 5, 2) := by decide +kernel
theorem dX6_isDanger_98 : decode cX6_isDanger 98 = .ok (.iload_n 3, 1) := by decide +kernel
theorem dX6_isDanger_99 : decode cX6_isDanger 99 = .ok (.iconst 1, 1) := by decide +kernel
theorem dX6_isDanger_100 : decode cX6_isDanger 100 = .ok (.iadd, 1) := by decide +kernel
theorem dX6_isDanger_101 : decode cX6_isDanger 101 = .ok (.aload_n 0, 1) := by decide +kernel
theorem dX6_isDanger_102 : decode cX6_isDanger 102 = .ok (.getfield 7, 3) := by decide +kernel
theorem dX6_isDanger_105 : decode cX6_isDanger 105 = .ok (.iconst 0, 1) := by decide +kernel
theorem dX6_isDanger_106 : decode cX6_isDanger 106 = .ok (.iaload, 1) := by decide +kernel
theorem dX6_isDanger_107 : decode cX6_isDanger 107 = .ok (.if_icmp .ge 42, 3) := by decide +kernel
theorem dX6_isDanger_110 : decode cX6_isDanger 110 = .ok (.iload_n 1, 1) := by decide +kernel
theorem dX6_isDanger_111 : decode cX6_isDanger 111 = .ok (.iload_n 3, 1) := by decide +kernel
theorem dX6_isDanger_112 : decode cX6_isDanger 112 = .ok (.iconst 1, 1) := by decide +kernel
theorem dX6_isDanger_113 : decode cX6_isDanger 113 = .ok (.iadd, 1) := by decide +kernel
theorem dX6_isDanger_114 : decode cX6_isDanger 114 = .ok (.invokestatic 64, 3) := by decide +kernel
theorem dX6_isDanger_117 : decode cX6_isDanger 117 = .ok (.ifCond .le 32, 3) := by decide +kernel
theorem dX6_isDanger_120 : decode cX6_isDanger 120 = .ok (.aload_n 0, 1) := by decide +kernel
theorem dX6_isDanger_121 : decode cX6_isDanger 121 = .ok (.getfield 7, 3) := by decide +kernel
theorem dX6_isDanger_124 : decode cX6_isDanger 124 = .ok (.bipush 6, 2) := by decide +kernel
theorem dX6_isDanger_126 : decode cX6_isDanger 126 = .ok (.iaload, 1) := by decide +kernel
theorem dX6_isDanger_127 : decode cX6_isDanger 127 = .ok (.aload_n 0, 1) := by decide +kernel
theorem dX6_isDanger_128 : decode cX6_isDanger 128 = .ok (.getfield 7, 3) := by decide +kernel
theorem dX6_isDanger_131 : decode cX6_isDanger 131 = .ok (.bipush 9, 2) := by decide +kernel
theorem dX6_isDanger_133 : decode cX6_isDanger 133 = .ok (.iload_n 3, 1) := by decide +kernel
theorem dX6_isDanger_134 : decode cX6_isDanger 134 = .ok (.iadd, 1) := by decide +kernel
theorem dX6_isDanger_135 : decode cX6_isDanger 135 = .ok (.iconst 1, 1) := by decide +kernel
theorem dX6_isDanger_136 : decode cX6_isDanger 136 = .ok (.iadd, 1) := by decide +kernel
theorem dX6_isDanger_137 : decode cX6_isDanger 137 = .ok (.iaload, 1) := by decide +kernel
theorem dX6_isDanger_138 : decode cX6_isDanger 138 = .ok (.ishr, 1) := by decide +kernel
theorem dX6_isDanger_139 : decode cX6_isDanger 139 = .ok (.iconst 1, 1) := by decide +kernel
theorem dX6_isDanger_140 : decode cX6_isDanger 140 = .ok (.iand, 1) := by decide +kernel
theorem dX6_isDanger_141 : decode cX6_isDanger 141 = .ok (.iconst 1, 1) := by decide +kernel
theorem dX6_isDanger_142 : decode cX6_isDanger 142 = .ok (.if_icmp .ne 7, 3) := by decide +kernel
theorem dX6_isDanger_145 : decode cX6_isDanger 145 = .ok (.iconst 1, 1) := by decide +kernel
theorem dX6_isDanger_146 : decode cX6_isDanger 146 = .ok (.goto 4, 3) := by decide +kernel
theorem dX6_isDanger_149 : decode cX6_isDanger 149 = .ok (.iconst 0, 1) := by decide +kernel
theorem dX6_isDanger_150 : decode cX6_isDanger 150 = .ok (.istore 6, 2) := by decide +kernel
theorem dX6_isDanger_152 : decode cX6_isDanger 152 = .ok (.iload_n 2, 1) := by decide +kernel
theorem dX6_isDanger_153 : decode cX6_isDanger 153 = .ok (.ifCond .ne 18, 3) := by decide +kernel
theorem dX6_isDanger_156 : decode cX6_isDanger 156 = .ok (.iload 4, 2) := by decide +kernel
theorem dX6_isDanger_158 : decode cX6_isDanger 158 = .ok (.ifCond .eq 17, 3) := by decide +kernel
theorem dX6_isDanger_161 : decode cX6_isDanger 161 = .ok (.iload 5, 2) := by decide +kernel
theorem dX6_isDanger_163 : decode cX6_isDanger 163 = .ok (.ifCond .ne 8, 3) := by decide +kernel
theorem dX6_isDanger_166 : decode cX6_isDanger 166 = .ok (.iload 6, 2) := by decide +kernel
theorem dX6_isDanger_168 : decode cX6_isDanger 168 = .ok (.ifCond .eq 7, 3) := by decide +kernel
theorem dX6_isDanger_171 : decode cX6_isDanger 171 = .ok (.iconst 1, 1) := by decide +kernel
theorem dX6_isDanger_172 : decode cX6_isDanger 172 = .ok (.goto 4, 3) := by decide +kernel
theorem dX6_isDanger_175 : decode cX6_isDanger 175 = .ok (.iconst 0, 1) := by decide +kernel
theorem dX6_isDanger_176 : decode cX6_isDanger 176 = .ok (.istore_n 2, 1) := by decide +kernel
theorem dX6_isDanger_177 : decode cX6_isDanger 177 = .ok (.iinc 3 1, 3) := by decide +kernel
theorem dX6_isDanger_180 : decode cX6_isDanger 180 = .ok (.goto (-176), 3) := by decide +kernel
theorem dX6_isDanger_183 : decode cX6_isDanger 183 = .ok (.iload_n 2, 1) := by decide +kernel
theorem dX6_isDanger_184 : decode cX6_isDanger 184 = .ok (.ireturn, 1) := by decide +kernel
theorem dX6_isEnd_0 : decode cX6_isEnd 0 = .ok (.iconst 1, 1) := by decide +kernel
theorem dX6_isEnd_1 : decode cX6_isEnd 1 = .ok (.istore 4, 2) := by decide +kernel
theorem dX6_isEnd_3 : decode cX6_isEnd 3 = .ok (.iconst 0, 1) := by decide +kernel
theorem dX6_isEnd_4 : decode cX6_isEnd 4 = .ok (.istore 5, 2) := by decide +kernel
theorem dX6_isEnd_6 : decode cX6_isEnd 6 = .ok (.iload 5, 2) := by decide +kernel
theorem dX6_isEnd_8 : decode cX6_isEnd 8 = .ok (.aload_n 0, 1) := by decide +kernel
theorem dX6_isEnd_9 : decode cX6_isEnd 9 = .ok (.getfield 7, 3) := by decide +kernel
theorem dX6_isEnd_12 : decode cX6_isEnd 12 = .ok (.iconst 0, 1) := by decide +kernel
theorem dX6_isEnd_13 : decode cX6_isEnd 13 = .ok (.iaload, 1) := by decide +kernel
theorem dX6_isEnd_14 : decode cX6_isEnd 14 = .ok (.if_icmp .ge 58, 3) := by decide +kernel
theorem dX6_isEnd_17 : decode cX6_isEnd 17 = .ok (.iload 4, 2) := by decide +kernel
theorem dX6_isEnd_19 : decode cX6_isEnd 19 = .ok (.ifCond .eq 44, 3) := by decide +kernel
theorem dX6_isEnd_22 : decode cX6_isEnd 22 = .ok (.iload_n 2, 1) := by decide +kernel
theorem dX6_isEnd_23 : decode cX6_isEnd 23 = .ok (.iload 5, 2) := by decide +kernel
theorem dX6_isEnd_25 : decode cX6_isEnd 25 = .ok (.ishr, 1) := by decide +kernel
theorem dX6_isEnd_26 : decode cX6_isEnd 26 = .ok (.iconst 1, 1) := by decide +kernel
theorem dX6_isEnd_27 : decode cX6_isEnd 27 = .ok (.iand, 1) := by decide +kernel
theorem dX6_isEnd_28 : decode cX6_isEnd 28 = .ok (.ifCond .eq 13, 3) := by decide +kernel
theorem dX6_isEnd_31 : decode cX6_isEnd 31 = .ok (.iload_n 1, 1) := by decide +kernel
theorem dX6_isEnd_32 : decode cX6_isEnd 32 = .ok (.iload 5, 2) := by decide +kernel
theorem dX6_isEnd_34 : decode cX6_isEnd 34 = .ok (.invokestatic 64, 3) := by decide +kernel
theorem dX6_isEnd_37 : decode cX6_isEnd 37 = .ok (.iconst 2, 1) := by decide +kernel
theorem dX6_isEnd_38 : decode cX6_isEnd 38 = .ok (.if_icmp .ne 25, 3) := by decide +kernel
theorem dX6_isEnd_41 : decode cX6_isEnd 41 = .ok (.iload_n 3, 1) := by decide +kernel
theorem dX6_isEnd_42 : decode cX6_isEnd 42 = .ok (.iload 5, 2) := by decide +kernel
theorem dX6_isEnd_44 : decode cX6_isEnd 44 = .ok (.ishr, 1) := by decide +kernel
theorem dX6_isEnd_45 : decode cX6_isEnd 45 = .ok (.iconst 1, 1) := by decide +kernel
theorem dX6_isEnd_46 : decode cX6_isEnd 46 = .ok (.iand, 1) := by decide +kernel
theorem dX6_isEnd_47 : decode cX6_isEnd 47 = .ok (.ifCond .eq 12, 3) := by decide +kernel
theorem dX6_isEnd_50 : decode cX6_isEnd 50 = .ok (.iload_n 1, 1) := by decide +kernel
theorem dX6_isEnd_51 : decode cX6_isEnd 51 = .ok (.iload 5, 2) := by decide +kernel
theorem dX6_isEnd_53 : decode cX6_isEnd 53 = .ok (.invokestatic 64, 3) := by decide +kernel
theorem dX6_isEnd_56 : decode cX6_isEnd 56 = .ok (.ifCond .ne 7, 3) := by decide +kernel
theorem dX6_isEnd_59 : decode cX6_isEnd 59 = .ok (.iconst 1, 1) := by decide +kernel
theorem dX6_isEnd_60 : decode cX6_isEnd 60 = .ok (.goto 4, 3) := by decide +kernel
theorem dX6_isEnd_63 : decode cX6_isEnd 63 = .ok (.iconst 0, 1) := by decide +kernel
theorem dX6_isEnd_64 : decode cX6_isEnd 64 = .ok (.istore 4, 2) := by decide +kernel
theorem dX6_isEnd_66 : decode cX6_isEnd 66 = .ok (.iinc 5 1, 3) := by decide +kernel
theorem dX6_isEnd_69 : decode cX6_isEnd 69 = .ok (.goto (-63), 3) := by decide +kernel
theorem dX6_isEnd_72 : decode cX6_isEnd 72 = .ok (.iload 4, 2) := by decide +kernel
theorem dX6_isEnd_74 : decode cX6_isEnd 74 = .ok (.ireturn, 1) := by decide +kernel
theorem dX6_reckons_0 : decode cX6_reckons 0 = .ok (.iconst 0, 1) := by decide +kernel
theorem dX6_reckons_1 : decode cX6_reckons 1 = .ok (.istore 4, 2) := by decide +kernel
theorem dX6_reckons_3 : decode cX6_reckons 3 = .ok (.iload 4, 2) := by decide +kernel
theorem dX6_reckons_5 : decode cX6_reckons 5 = .ok (.aload_n 0, 1) := by decide +kernel
theorem dX6_reckons_6 : decode cX6_reckons 6 = .ok (.invokevirtual 183, 3) := by decide +kernel
theorem dX6_reckons_9 : decode cX6_reckons 9 = .ok (.if_icmp .ge 50, 3) := by decide +kernel
theorem dX6_reckons_12 : decode cX6_reckons 12 = .ok (.aload_n 0, 1) := by decide +kernel
theorem dX6_reckons_13 : decode cX6_reckons 13 = .ok (.getfield 35, 3) := by decide +kernel
theorem dX6_reckons_16 : decode cX6_reckons 16 = .ok (.iload 4, 2) := by decide +kernel
theorem dX6_reckons_18 : decode cX6_reckons 18 = .ok (.iload_n 3, 1) := by decide +kernel
theorem dX6_reckons_19 : decode cX6_reckons 19 = .ok (.ifCond .eq 17, 3) := by decide +kernel
theorem dX6_reckons_22 : decode cX6_reckons 22 = .ok (.aload_n 0, 1) := by decide +kernel
theorem dX6_reckons_23 : decode cX6_reckons 23 = .ok (.iload 4, 2) := by decide +kernel
theorem dX6_reckons_25 : decode cX6_reckons 25 = .ok (.invokevirtual 189, 3) := by decide +kernel
theorem dX6_reckons_28 : decode cX6_reckons 28 = .ok (.ifCond .eq 8, 3) := by decide +kernel
theorem dX6_reckons_31 : decode cX6_reckons 31 = .ok (.bipush (-2), 2) := by decide +kernel
theorem dX6_reckons_33 : decode cX6_reckons 33 = .ok (.goto 19, 3) := by decide +kernel
theorem dX6_reckons_36 : decode cX6_reckons 36 = .ok (.aload_n 0, 1) := by decide +kernel
theorem dX6_reckons_37 : decode cX6_reckons 37 = .ok (.iload 4, 2) := by decide +kernel
theorem dX6_reckons_39 : decode cX6_reckons 39 = .ok (.iload_n 1, 1) := by decide +kernel
theorem dX6_reckons_40 : decode cX6_reckons 40 = .ok (.iload_n 2, 1) := by decide +kernel
theorem dX6_reckons_41 : decode cX6_reckons 41 = .ok (.invokevirtual 192, 3) := by decide +kernel
theorem dX6_reckons_44 : decode cX6_reckons 44 = .ok (.ifCond .eq 7, 3) := by decide +kernel
theorem dX6_reckons_47 : decode cX6_reckons 47 = .ok (.iconst 0, 1) := by decide +kernel
theorem dX6_reckons_48 : decode cX6_reckons 48 = .ok (.goto 4, 3) := by decide +kernel
theorem dX6_reckons_51 : decode cX6_reckons 51 = .ok (.iconst (-1), 1) := by decide +kernel
theorem dX6_reckons_52 : decode cX6_reckons 52 = .ok (.iastore, 1) := by decide +kernel
theorem dX6_reckons_53 : decode cX6_reckons 53 = .ok (.iinc 4 1, 3) := by decide +kernel
theorem dX6_reckons_56 : decode cX6_reckons 56 = .ok (.goto (-53), 3) := by decide +kernel
theorem dX6_reckons_59 : decode cX6_reckons 59 = .ok (.iconst 1, 1) := by decide +kernel
theorem dX6_reckons_60 : decode cX6_reckons 60 = .ok (.istore 4, 2) := by decide +kernel
theorem dX6_reckons_62 : decode cX6_reckons 62 = .ok (.iconst 0, 1) := by decide +kernel
theorem dX6_reckons_63 : decode cX6_reckons 63 = .ok (.istore 5, 2) := by decide +kernel
theorem dX6_reckons_65 : decode cX6_reckons 65 = .ok (.iload 4, 2) := by decide +kernel
theorem dX6_reckons_67 : decode cX6_reckons 67 = .ok (.ifCond .eq 98, 3) := by decide +kernel
theorem dX6_reckons_70 : decode cX6_reckons 70 = .ok (.iconst 0, 1) := by decide +kernel
theorem dX6_reckons_71 : decode cX6_reckons 71 = .ok (.istore 4, 2) := by decide +kernel
theorem dX6_reckons_73 : decode cX6_reckons 73 = .ok (.iconst 0, 1) := by decide +kernel
theorem dX6_reckons_74 : decode cX6_reckons 74 = .ok (.istore 6, 2) := by decide +kernel
theorem dX6_reckons_76 : decode cX6_reckons 76 = .ok (.iload 6, 2) := by decide +kernel
theorem dX6_reckons_78 : decode cX6_reckons 78 = .ok (.aload_n 0, 1) := by decide +kernel
theorem dX6_reckons_79 : decode cX6_reckons 79 = .ok (.invokevirtual 183, 3) := by decide +kernel
theorem dX6_reckons_82 : decode cX6_reckons 82 = .ok (.if_icmp .ge 77, 3) := by decide +kernel
theorem dX6_reckons_85 : decode cX6_reckons 85 = .ok (.iconst 0, 1) := by decide +kernel
theorem dX6_reckons_86 : decode cX6_reckons 86 = .ok (.istore 7, 2) := by decide +kernel
theorem dX6_reckons_88 : decode cX6_reckons 88 = .ok (.iload 7, 2) := by decide +kernel
theorem dX6_reckons_90 : decode cX6_reckons 90 = .ok (.aload_n 0, 1) := by decide +kernel
theorem dX6_reckons_91 : decode cX6_reckons 91 = .ok (.getfield 7, 3) := by decide +kernel
theorem dX6_reckons_94 : decode cX6_reckons 94 = .ok (.iconst 0, 1) := by decide +kernel
theorem dX6_reckons_95 : decode cX6_reckons 95 = .ok (.iaload, 1) := by decide +kernel
theorem dX6_reckons_96 : decode cX6_reckons 96 = .ok (.if_icmp .ge 57, 3) := by decide +kernel
theorem dX6_reckons_99 : decode cX6_reckons 99 = .ok (.aload_n 0, 1) := by decide +kernel
theorem dX6_reckons_100 : decode cX6_reckons 100 = .ok (.getfield 35, 3) := by decide +kernel
theorem dX6_reckons_103 : decode cX6_reckons 103 = .ok (.iload 6, 2) := by decide +kernel
theorem dX6_reckons_105 : decode cX6_reckons 105 = .ok (.iaload, 1) := by decide +kernel
theorem dX6_reckons_106 : decode cX6_reckons 106 = .ok (.iconst (-1), 1) := by decide +kernel
theorem dX6_reckons_107 : decode cX6_reckons 107 = .ok (.if_icmp .ne 46, 3) := by decide +kernel
theorem dX6_reckons_110 : decode cX6_reckons 110 = .ok (.aload_n 0, 1) := by decide +kernel
theorem dX6_reckons_111 : decode cX6_reckons 111 = .ok (.getfield 35, 3) := by decide +kernel
theorem dX6_reckons_114 : decode cX6_reckons 114 = .ok (.aload_n 0, 1) := by decide +kernel
theorem dX6_reckons_115 : decode cX6_reckons 115 = .ok (.getfield 32, 3) := by decide +kernel
theorem dX6_reckons_118 : decode cX6_reckons 118 = .ok (.bipush 7, 2) := by decide +kernel
theorem dX6_reckons_120 : decode cX6_reckons 120 = .ok (.iload 6, 2) := by decide +kernel
theorem dX6_reckons_122 : decode cX6_reckons 122 = .ok (.imul, 1) := by decide +kernel
theorem dX6_reckons_123 : decode cX6_reckons 123 = .ok (.iload 7, 2) := by decide +kernel
theorem dX6_reckons_125 : decode cX6_reckons 125 = .ok (.iadd, 1) := by decide +kernel
theorem dX6_reckons_126 : decode cX6_reckons 126 = .ok (.iaload, 1) := by decide +kernel
theorem dX6_reckons_127 : decode cX6_reckons 127 = .ok (.iaload, 1) := by decide +kernel
theorem dX6_reckons_128 : decode cX6_reckons 128 = .ok (.iload 5, 2) := by decide +kernel
theorem dX6_reckons_130 : decode cX6_reckons 130 = .ok (.if_icmp .ne 17, 3) := by decide +kernel
theorem dX6_reckons_133 : decode cX6_reckons 133 = .ok (.aload_n 0, 1) := by decide +kernel
theorem dX6_reckons_134 : decode cX6_reckons 134 = .ok (.getfield 35, 3) := by decide +kernel
theorem dX6_reckons_137 : decode cX6_reckons 137 = .ok (.iload 6, 2) := by decide +kernel
theorem dX6_reckons_139 : decode cX6_reckons 139 = .ok (.iload 5, 2) := by decide +kernel
theorem dX6_reckons_141 : decode cX6_reckons 141 = .ok (.iconst 1, 1) := by decide +kernel
theorem dX6_reckons_142 : decode cX6_reckons 142 = .ok (.iadd, 1) := by decide +kernel
theorem dX6_reckons_143 : decode cX6_reckons 143 = .ok (.iastore, 1) := by decide +kernel
theorem dX6_reckons_144 : decode cX6_reckons 144 = .ok (.iconst 1, 1) := by decide +kernel
theorem dX6_reckons_145 : decode cX6_reckons 145 = .ok (.istore 4, 2) := by decide +kernel
theorem dX6_reckons_147 : decode cX6_reckons 147 = .ok (.iinc 7 1, 3) := by decide +kernel
theorem dX6_reckons_150 : decode cX6_reckons 150 = .ok (.goto (-62), 3) := by decide +kernel
theorem dX6_reckons_153 : decode cX6_reckons 153 = .ok (.iinc 6 1, 3) := by decide +kernel
theorem dX6_reckons_156 : decode cX6_reckons 156 = .ok (.goto (-80), 3) := by decide +kernel
theorem dX6_reckons_159 : decode cX6_reckons 159 = .ok (.iinc 5 1, 3) := by decide +kernel
theorem dX6_reckons_162 : decode cX6_reckons 162 = .ok (.goto (-97), 3) := by decide +kernel
theorem dX6_reckons_165 : decode cX6_reckons 165 = .ok (.return_, 1) := by decide +kernel
theorem dX6_next_0 : decode cX6_next 0 = .ok (.iconst 0, 1) := by decide +kernel
theorem dX6_next_1 : decode cX6_next 1 = .ok (.istore_n 2, 1) := by decide +kernel
theorem dX6_next_2 : decode cX6_next 2 = .ok (.aload_n 0, 1) := by decide +kernel
theorem dX6_next_3 : decode cX6_next 3 = .ok (.getfield 35, 3) := by decide +kernel
theorem dX6_next_6 : decode cX6_next 6 = .ok (.aload_n 0, 1) := by decide +kernel
theorem dX6_next_7 : decode cX6_next 7 = .ok (.getfield 32, 3) := by decide +kernel
theorem dX6_next_10 : decode cX6_next 10 = .ok (.bipush 7, 2) := by decide +kernel
theorem dX6_next_12 : decode cX6_next 12 = .ok (.iload_n 1, 1) := by decide +kernel
theorem dX6_next_13 : decode cX6_next 13 = .ok (.imul, 1) := by decide +kernel
theorem dX6_next_14 : decode cX6_next 14 = .ok (.iload_n 2, 1) := by decide +kernel
theorem dX6_next_15 : decode cX6_next 15 = .ok (.iadd, 1) := by decide +kernel
theorem dX6_next_16 : decode cX6_next 16 = .ok (.iaload, 1) := by decide +kernel
theorem dX6_next_17 : decode cX6_next 17 = .ok (.iaload, 1) := by decide +kernel
theorem dX6_next_18 : decode cX6_next 18 = .ok (.aload_n 0, 1) := by decide +kernel
theorem dX6_next_19 : decode cX6_next 19 = .ok (.getfield 35, 3) := by decide +kernel
theorem dX6_next_22 : decode cX6_next 22 = .ok (.iload_n 1, 1) := by decide +kernel
theorem dX6_next_23 : decode cX6_next 23 = .ok (.iaload, 1) := by decide +kernel
theorem dX6_next_24 : decode cX6_next 24 = .ok (.iconst 1, 1) := by decide +kernel
theorem dX6_next_25 : decode cX6_next 25 = .ok (.isub, 1) := by decide +kernel
theorem dX6_next_26 : decode cX6_next 26 = .ok (.if_icmp .eq 9, 3) := by decide +kernel
theorem dX6_next_29 : decode cX6_next 29 = .ok (.iinc 2 1, 3) := by decide +kernel
theorem dX6_next_32 : decode cX6_next 32 = .ok (.goto (-30), 3) := by decide +kernel
theorem dX6_next_35 : decode cX6_next 35 = .ok (.iload_n 2, 1) := by decide +kernel
theorem dX6_next_36 : decode cX6_next 36 = .ok (.ireturn, 1) := by decide +kernel
theorem dX6_rows_0 : decode cX6_rows 0 = .ok (.iconst 1, 1) := by decide +kernel
theorem dX6_rows_1 : decode cX6_rows 1 = .ok (.aload_n 0, 1) := by decide +kernel
theorem dX6_rows_2 : decode cX6_rows 2 = .ok (.getfield 7, 3) := by decide +kernel
theorem dX6_rows_5 : decode cX6_rows 5 = .ok (.iconst 0, 1) := by decide +kernel
theorem dX6_rows_6 : decode cX6_rows 6 = .ok (.iaload, 1) := by decide +kernel
theorem dX6_rows_7 : decode cX6_rows 7 = .ok (.ishl, 1) := by decide +kernel
theorem dX6_rows_8 : decode cX6_rows 8 = .ok (.iconst 1, 1) := by decide +kernel
theorem dX6_rows_9 : decode cX6_rows 9 = .ok (.isub, 1) := by decide +kernel
theorem dX6_rows_10 : decode cX6_rows 10 = .ok (.istore 5, 2) := by decide +kernel
theorem dX6_rows_12 : decode cX6_rows 12 = .ok (.iload_n 1, 1) := by decide +kernel
theorem dX6_rows_13 : decode cX6_rows 13 = .ok (.i2l, 1) := by decide +kernel
theorem dX6_rows_14 : decode cX6_rows 14 = .ok (.lconst 0, 1) := by decide +kernel
theorem dX6_rows_15 : decode cX6_rows 15 = .ok (.iload 5, 2) := by decide +kernel
theorem dX6_rows_17 : decode cX6_rows 17 = .ok (.i2l, 1) := by decide +kernel
theorem dX6_rows_18 : decode cX6_rows 18 = .ok (.invokestatic 56, 3) := by decide +kernel
theorem dX6_rows_21 : decode cX6_rows 21 = .ok (.ifCond .eq 26, 3) := by decide +kernel
theorem dX6_rows_24 : decode cX6_rows 24 = .ok (.iload_n 2, 1) := by decide +kernel
theorem dX6_rows_25 : decode cX6_rows 25 = .ok (.i2l, 1) := by decide +kernel
theorem dX6_rows_26 : decode cX6_rows 26 = .ok (.lconst 0, 1) := by decide +kernel
theorem dX6_rows_27 : decode cX6_rows 27 = .ok (.iload 5, 2) := by decide +kernel
theorem dX6_rows_29 : decode cX6_rows 29 = .ok (.i2l, 1) := by decide +kernel
theorem dX6_rows_30 : decode cX6_rows 30 = .ok (.invokestatic 56, 3) := by decide +kernel
theorem dX6_rows_33 : decode cX6_rows 33 = .ok (.ifCond .eq 14, 3) := by decide +kernel
theorem dX6_rows_36 : decode cX6_rows 36 = .ok (.iload_n 1, 1) := by decide +kernel
theorem dX6_rows_37 : decode cX6_rows 37 = .ok (.iload_n 2, 1) := by decide +kernel
theorem dX6_rows_38 : decode cX6_rows 38 = .ok (.iand, 1) := by decide +kernel
theorem dX6_rows_39 : decode cX6_rows 39 = .ok (.ifCond .ne 8, 3) := by decide +kernel
theorem dX6_rows_42 : decode cX6_rows 42 = .ok (.iload_n 3, 1) := by decide +kernel
theorem dX6_rows_43 : decode cX6_rows 43 = .ok (.iconst (-1), 1) := by decide +kernel
theorem dX6_rows_44 : decode cX6_rows 44 = .ok (.if_icmp .ge 11, 3) := by decide +kernel
theorem dX6_rows_47 : decode cX6_rows 47 = .ok (.aload_n 0, 1) := by decide +kernel
theorem dX6_rows_48 : decode cX6_rows 48 = .ok (.iconst 0, 1) := by decide +kernel
theorem dX6_rows_49 : decode cX6_rows 49 = .ok (.bipush (-10), 2) := by decide +kernel
theorem dX6_rows_51 : decode cX6_rows 51 = .ok (.invokevirtual 52, 3) := by decide +kernel
theorem dX6_rows_54 : decode cX6_rows 54 = .ok (.ireturn, 1) := by decide +kernel
theorem dX6_rows_55 : decode cX6_rows 55 = .ok (.aload_n 0, 1) := by decide +kernel
theorem dX6_rows_56 : decode cX6_rows 56 = .ok (.invokevirtual 196, 3) := by decide +kernel
theorem dX6_rows_59 : decode cX6_rows 59 = .ok (.aload_n 0, 1) := by decide +kernel
theorem dX6_rows_60 : decode cX6_rows 60 = .ok (.iload_n 1, 1) := by decide +kernel
theorem dX6_rows_61 : decode cX6_rows 61 = .ok (.iload_n 2, 1) := by decide +kernel
theorem dX6_rows_62 : decode cX6_rows 62 = .ok (.iload 4, 2) := by decide +kernel
theorem dX6_rows_64 : decode cX6_rows 64 = .ok (.invokevirtual 199, 3) := by decide +kernel
theorem dX6_rows_67 : decode cX6_rows 67 = .ok (.aload_n 0, 1) := by decide +kernel
theorem dX6_rows_68 : decode cX6_rows 68 = .ok (.getfield 7, 3) := by decide +kernel
theorem dX6_rows_71 : decode cX6_rows 71 = .ok (.bipush 7, 2) := by decide +kernel
theorem dX6_rows_73 : decode cX6_rows 73 = .ok (.iaload, 1) := by decide +kernel
theorem dX6_rows_74 : decode cX6_rows 74 = .ok (.istore 6, 2) := by decide +kernel
theorem dX6_rows_76 : decode cX6_rows 76 = .ok (.aload_n 0, 1) := by decide +kernel
theorem dX6_rows_77 : decode cX6_rows 77 = .ok (.getfield 35, 3) := by decide +kernel
theorem dX6_rows_80 : decode cX6_rows 80 = .ok (.iload 6, 2) := by decide +kernel
theorem dX6_rows_82 : decode cX6_rows 82 = .ok (.iaload, 1) := by decide +kernel
theorem dX6_rows_83 : decode cX6_rows 83 = .ok (.istore 7, 2) := by decide +kernel
theorem dX6_rows_85 : decode cX6_rows 85 = .ok (.iload 7, 2) := by decide +kernel
theorem dX6_rows_87 : decode cX6_rows 87 = .ok (.ifCond .ge 5, 3) := by decide +kernel
theorem dX6_rows_90 : decode cX6_rows 90 = .ok (.iconst (-1), 1) := by decide +kernel
theorem dX6_rows_91 : decode cX6_rows 91 = .ok (.ireturn, 1) := by decide +kernel
theorem dX6_rows_92 : decode cX6_rows 92 = .ok (.iload_n 3, 1) := by decide +kernel
theorem dX6_rows_93 : decode cX6_rows 93 = .ok (.iconst (-1), 1) := by decide +kernel
theorem dX6_rows_94 : decode cX6_rows 94 = .ok (.if_icmp .eq 9, 3) := by decide +kernel
theorem dX6_rows_97 : decode cX6_rows 97 = .ok (.iload_n 3, 1) := by decide +kernel
theorem dX6_rows_98 : decode cX6_rows 98 = .ok (.iload 7, 2) := by decide +kernel
theorem dX6_rows_100 : decode cX6_rows 100 = .ok (.if_icmp .lt 16, 3) := by decide +kernel
theorem dX6_rows_103 : decode cX6_rows 103 = .ok (.iload_n 3, 1) := by decide +kernel
theorem dX6_rows_104 : decode cX6_rows 104 = .ok (.iconst (-1), 1) := by decide +kernel
theorem dX6_rows_105 : decode cX6_rows 105 = .ok (.if_icmp .ne 8, 3) := by decide +kernel
theorem dX6_rows_108 : decode cX6_rows 108 = .ok (.iload 7, 2) := by decide +kernel
theorem dX6_rows_110 : decode cX6_rows 110 = .ok (.goto 5, 3) := by decide +kernel
theorem dX6_rows_113 : decode cX6_rows 113 = .ok (.bipush (-5), 2) := by decide +kernel
theorem dX6_rows_115 : decode cX6_rows 115 = .ok (.ireturn, 1) := by decide +kernel
theorem dX6_rows_116 : decode cX6_rows 116 = .ok (.iconst 0, 1) := by decide +kernel
theorem dX6_rows_117 : decode cX6_rows 117 = .ok (.istore 8, 2) := by decide +kernel
theorem dX6_rows_119 : decode cX6_rows 119 = .ok (.iload 8, 2) := by decide +kernel
theorem dX6_rows_121 : decode cX6_rows 121 = .ok (.iload_n 3, 1) := by decide +kernel
theorem dX6_rows_122 : decode cX6_rows 122 = .ok (.if_icmp .ge 28, 3) := by decide +kernel
theorem dX6_rows_125 : decode cX6_rows 125 = .ok (.aload_n 0, 1) := by decide +kernel
theorem dX6_rows_126 : decode cX6_rows 126 = .ok (.getfield 32, 3) := by decide +kernel
theorem dX6_rows_129 : decode cX6_rows 129 = .ok (.bipush 7, 2) := by decide +kernel
theorem dX6_rows_131 : decode cX6_rows 131 = .ok (.iload 6, 2) := by decide +kernel
theorem dX6_rows_133 : decode cX6_rows 133 = .ok (.imul, 1) := by decide +kernel
theorem dX6_rows_134 : decode cX6_rows 134 = .ok (.aload_n 0, 1) := by decide +kernel
theorem dX6_rows_135 : decode cX6_rows 135 = .ok (.iload 6, 2) := by decide +kernel
theorem dX6_rows_137 : decode cX6_rows 137 = .ok (.invokevirtual 203, 3) := by decide +kernel
theorem dX6_rows_140 : decode cX6_rows 140 = .ok (.iadd, 1) := by decide +kernel
theorem dX6_rows_141 : decode cX6_rows 141 = .ok (.iaload, 1) := by decide +kernel
theorem dX6_rows_142 : decode cX6_rows 142 = .ok (.istore 6, 2) := by decide +kernel
theorem dX6_rows_144 : decode cX6_rows 144 = .ok (.iinc 8 1, 3) := by decide +kernel
theorem dX6_rows_147 : decode cX6_rows 147 = .ok (.goto (-28), 3) := by decide +kernel
theorem dX6_rows_150 : decode cX6_rows 150 = .ok (.aload_n 0, 1) := by decide +kernel
theorem dX6_rows_151 : decode cX6_rows 151 = .ok (.iload 6, 2) := by decide +kernel
theorem dX6_rows_153 : decode cX6_rows 153 = .ok (.invokevirtual 203, 3) := by decide +kernel
theorem dX6_rows_156 : decode cX6_rows 156 = .ok (.ireturn, 1) := by decide +kernel
theorem dX6_pulls_0 : decode cX6_pulls 0 = .ok (.aload_n 0, 1) := by decide +kernel
theorem dX6_pulls_1 : decode cX6_pulls 1 = .ok (.iload_n 1, 1) := by decide +kernel
theorem dX6_pulls_2 : decode cX6_pulls 2 = .ok (.iload_n 2, 1) := by decide +kernel
theorem dX6_pulls_3 : decode cX6_pulls 3 = .ok (.iload_n 3, 1) := by decide +kernel
theorem dX6_pulls_4 : decode cX6_pulls 4 = .ok (.iconst 0, 1) := by decide +kernel
theorem dX6_pulls_5 : decode cX6_pulls 5 = .ok (.invokevirtual 206, 3) := by decide +kernel
theorem dX6_pulls_8 : decode cX6_pulls 8 = .ok (.ireturn, 1) := by decide +kernel
theorem dX6_safe_0 : decode cX6_safe 0 = .ok (.aload_n 0, 1) := by decide +kernel
theorem dX6_safe_1 : decode cX6_safe 1 = .ok (.iload_n 1, 1) := by decide +kernel
theorem dX6_safe_2 : decode cX6_safe 2 = .ok (.iload_n 2, 1) := by decide +kernel
theorem dX6_safe_3 : decode cX6_safe 3 = .ok (.iload_n 3, 1) := by decide +kernel
theorem dX6_safe_4 : decode cX6_safe 4 = .ok (.iconst 1, 1) := by decide +kernel
theorem dX6_safe_5 : decode cX6_safe 5 = .ok (.invokevirtual 206, 3) := by decide +kernel
theorem dX6_safe_8 : decode cX6_safe 8 = .ok (.ireturn, 1) := by decide +kernel
theorem dX6_goes_0 : decode cX6_goes 0 = .ok (.iconst 0, 1) := by decide +kernel
theorem dX6_goes_1 : decode cX6_goes 1 = .ok (.istore_n 2, 1) := by decide +kernel
theorem dX6_goes_2 : decode cX6_goes 2 = .ok (.iload_n 2, 1) := by decide +kernel
theorem dX6_goes_3 : decode cX6_goes 3 = .ok (.aload_n 0, 1) := by decide +kernel
theorem dX6_goes_4 : decode cX6_goes 4 = .ok (.invokevirtual 183, 3) := by decide +kernel
theorem dX6_goes_7 : decode cX6_goes 7 = .ok (.if_icmp .ge 31, 3) := by decide +kernel
theorem dX6_goes_10 : decode cX6_goes 10 = .ok (.aload_n 0, 1) := by decide +kernel
theorem dX6_goes_11 : decode cX6_goes 11 = .ok (.getfield 38, 3) := by decide +kernel
theorem dX6_goes_14 : decode cX6_goes 14 = .ok (.iload_n 2, 1) := by decide +kernel
theorem dX6_goes_15 : decode cX6_goes 15 = .ok (.iload_n 2, 1) := by decide +kernel
theorem dX6_goes_16 : decode cX6_goes 16 = .ok (.aload_n 0, 1) := by decide +kernel
theorem dX6_goes_17 : decode cX6_goes 17 = .ok (.getfield 7, 3) := by decide +kernel
theorem dX6_goes_20 : decode cX6_goes 20 = .ok (.bipush 7, 2) := by decide +kernel
theorem dX6_goes_22 : decode cX6_goes 22 = .ok (.iaload, 1) := by decide +kernel
theorem dX6_goes_23 : decode cX6_goes 23 = .ok (.if_icmp .ne 7, 3) := by decide +kernel
theorem dX6_goes_26 : decode cX6_goes 26 = .ok (.iconst 1, 1) := by decide +kernel
theorem dX6_goes_27 : decode cX6_goes 27 = .ok (.goto 4, 3) := by decide +kernel
theorem dX6_goes_30 : decode cX6_goes 30 = .ok (.iconst 0, 1) := by decide +kernel
theorem dX6_goes_31 : decode cX6_goes 31 = .ok (.bastore, 1) := by decide +kernel
theorem dX6_goes_32 : decode cX6_goes 32 = .ok (.iinc 2 1, 3) := by decide +kernel
theorem dX6_goes_35 : decode cX6_goes 35 = .ok (.goto (-33), 3) := by decide +kernel
theorem dX6_goes_38 : decode cX6_goes 38 = .ok (.aload_n 0, 1) := by decide +kernel
theorem dX6_goes_39 : decode cX6_goes 39 = .ok (.getfield 41, 3) := by decide +kernel
theorem dX6_goes_42 : decode cX6_goes 42 = .ok (.iconst 0, 1) := by decide +kernel
theorem dX6_goes_43 : decode cX6_goes 43 = .ok (.aload_n 0, 1) := by decide +kernel
theorem dX6_goes_44 : decode cX6_goes 44 = .ok (.getfield 7, 3) := by decide +kernel
theorem dX6_goes_47 : decode cX6_goes 47 = .ok (.bipush 7, 2) := by decide +kernel
theorem dX6_goes_49 : decode cX6_goes 49 = .ok (.iaload, 1) := by decide +kernel
theorem dX6_goes_50 : decode cX6_goes 50 = .ok (.iastore, 1) := by decide +kernel
theorem dX6_goes_51 : decode cX6_goes 51 = .ok (.aload_n 0, 1) := by decide +kernel
theorem dX6_goes_52 : decode cX6_goes 52 = .ok (.iconst 1, 1) := by decide +kernel
theorem dX6_goes_53 : decode cX6_goes 53 = .ok (.putfield 210, 3) := by decide +kernel
theorem dX6_goes_56 : decode cX6_goes 56 = .ok (.iconst 0, 1) := by decide +kernel
theorem dX6_goes_57 : decode cX6_goes 57 = .ok (.istore_n 2, 1) := by decide +kernel
theorem dX6_goes_58 : decode cX6_goes 58 = .ok (.iload_n 2, 1) := by decide +kernel
theorem dX6_goes_59 : decode cX6_goes 59 = .ok (.aload_n 0, 1) := by decide +kernel
theorem dX6_goes_60 : decode cX6_goes 60 = .ok (.getfield 210, 3) := by decide +kernel
theorem dX6_goes_63 : decode cX6_goes 63 = .ok (.if_icmp .ge 80, 3) := by decide +kernel
theorem dX6_goes_66 : decode cX6_goes 66 = .ok (.iconst 0, 1) := by decide +kernel
theorem dX6_goes_67 : decode cX6_goes 67 = .ok (.istore_n 3, 1) := by decide +kernel
theorem dX6_goes_68 : decode cX6_goes 68 = .ok (.iload_n 3, 1) := by decide +kernel
theorem dX6_goes_69 : decode cX6_goes 69 = .ok (.aload_n 0, 1) := by decide +kernel
theorem dX6_goes_70 : decode cX6_goes 70 = .ok (.getfield 7, 3) := by decide +kernel
theorem dX6_goes_73 : decode cX6_goes 73 = .ok (.iconst 0, 1) := by decide +kernel
theorem dX6_goes_74 : decode cX6_goes 74 = .ok (.iaload, 1) := by decide +kernel
theorem dX6_goes_75 : decode cX6_goes 75 = .ok (.if_icmp .ge 62, 3) := by decide +kernel
theorem dX6_goes_78 : decode cX6_goes 78 = .ok (.aload_n 0, 1) := by decide +kernel
theorem dX6_goes_79 : decode cX6_goes 79 = .ok (.aload_n 0, 1) := by decide +kernel
theorem dX6_goes_80 : decode cX6_goes 80 = .ok (.getfield 41, 3) := by decide +kernel
theorem dX6_goes_83 : decode cX6_goes 83 = .ok (.iload_n 2, 1) := by decide +kernel
theorem dX6_goes_84 : decode cX6_goes 84 = .ok (.iaload, 1) := by decide +kernel
theorem dX6_goes_85 : decode cX6_goes 85 = .ok (.iload_n 3, 1) := by decide +kernel
theorem dX6_goes_86 : decode cX6_goes 86 = .ok (.iload_n 1, 1) := by decide +kernel
theorem dX6_goes_87 : decode cX6_goes 87 = .ok (.invokevirtual 179, 3) := by decide +kernel
theorem dX6_goes_90 : decode cX6_goes 90 = .ok (.istore 4, 2) := by decide +kernel
theorem dX6_goes_92 : decode cX6_goes 92 = .ok (.aload_n 0, 1) := by decide +kernel
theorem dX6_goes_93 : decode cX6_goes 93 = .ok (.getfield 38, 3) := by decide +kernel
theorem dX6_goes_96 : decode cX6_goes 96 = .ok (.iload 4, 2) := by decide +kernel
theorem dX6_goes_98 : decode cX6_goes 98 = .ok (.baload, 1) := by decide +kernel
theorem dX6_goes_99 : decode cX6_goes 99 = .ok (.ifCond .ne 32, 3) := by decide +kernel
theorem dX6_goes_102 : decode cX6_goes 102 = .ok (.aload_n 0, 1) := by decide +kernel
theorem dX6_goes_103 : decode cX6_goes 103 = .ok (.getfield 38, 3) := by decide +kernel
theorem dX6_goes_106 : decode cX6_goes 106 = .ok (.iload 4, 2) := by decide +kernel
theorem dX6_goes_108 : decode cX6_goes 108 = .ok (.iconst 1, 1) := by decide +kernel
theorem dX6_goes_109 : decode cX6_goes 109 = .ok (.bastore, 1) := by decide +kernel
theorem dX6_goes_110 : decode cX6_goes 110 = .ok (.aload_n 0, 1) := by decide +kernel
theorem dX6_goes_111 : decode cX6_goes 111 = .ok (.getfield 41, 3) := by decide +kernel
theorem dX6_goes_114 : decode cX6_goes 114 = .ok (.aload_n 0, 1) := by decide +kernel
theorem dX6_goes_115 : decode cX6_goes 115 = .ok (.getfield 210, 3) := by decide +kernel
theorem dX6_goes_118 : decode cX6_goes 118 = .ok (.iload 4, 2) := by decide +kernel
theorem dX6_goes_120 : decode cX6_goes 120 = .ok (.iastore, 1) := by decide +kernel
theorem dX6_goes_121 : decode cX6_goes 121 = .ok (.aload_n 0, 1) := by decide +kernel
theorem dX6_goes_122 : decode cX6_goes 122 = .ok (.dup, 1) := by decide +kernel
theorem dX6_goes_123 : decode cX6_goes 123 = .ok (.getfield 210, 3) := by decide +kernel
theorem dX6_goes_126 : decode cX6_goes 126 = .ok (.iconst 1, 1) := by decide +kernel
theorem dX6_goes_127 : decode cX6_goes 127 = .ok (.iadd, 1) := by decide +kernel
theorem dX6_goes_128 : decode cX6_goes 128 = .ok (.putfield 210, 3) := by decide +kernel
theorem dX6_goes_131 : decode cX6_goes 131 = .ok (.iinc 3 1, 3) := by decide +kernel
theorem dX6_goes_134 : decode cX6_goes 134 = .ok (.goto (-66), 3) := by decide +kernel
theorem dX6_goes_137 : decode cX6_goes 137 = .ok (.iinc 2 1, 3) := by decide +kernel
theorem dX6_goes_140 : decode cX6_goes 140 = .ok (.goto (-82), 3) := by decide +kernel
theorem dX6_goes_143 : decode cX6_goes 143 = .ok (.return_, 1) := by decide +kernel
theorem dX6_reach_0 : decode cX6_reach 0 = .ok (.iload_n 1, 1) := by decide +kernel
theorem dX6_reach_1 : decode cX6_reach 1 = .ok (.i2l, 1) := by decide +kernel
theorem dX6_reach_2 : decode cX6_reach 2 = .ok (.lconst 0, 1) := by decide +kernel
theorem dX6_reach_3 : decode cX6_reach 3 = .ok (.ldc2_w 75, 3) := by decide +kernel
theorem dX6_reach_6 : decode cX6_reach 6 = .ok (.invokestatic 56, 3) := by decide +kernel
theorem dX6_reach_9 : decode cX6_reach 9 = .ok (.ifCond .ne 8, 3) := by decide +kernel
theorem dX6_reach_12 : decode cX6_reach 12 = .ok (.aload_n 0, 1) := by decide +kernel
theorem dX6_reach_13 : decode cX6_reach 13 = .ok (.invokevirtual 79, 3) := by decide +kernel
theorem dX6_reach_16 : decode cX6_reach 16 = .ok (.ireturn, 1) := by decide +kernel
theorem dX6_reach_17 : decode cX6_reach 17 = .ok (.aload_n 0, 1) := by decide +kernel
theorem dX6_reach_18 : decode cX6_reach 18 = .ok (.aload_n 0, 1) := by decide +kernel
theorem dX6_reach_19 : decode cX6_reach 19 = .ok (.invokevirtual 176, 3) := by decide +kernel
theorem dX6_reach_22 : decode cX6_reach 22 = .ok (.invokevirtual 213, 3) := by decide +kernel
theorem dX6_reach_25 : decode cX6_reach 25 = .ok (.iconst 0, 1) := by decide +kernel
theorem dX6_reach_26 : decode cX6_reach 26 = .ok (.istore_n 2, 1) := by decide +kernel
theorem dX6_reach_27 : decode cX6_reach 27 = .ok (.iconst (-1), 1) := by decide +kernel
theorem dX6_reach_28 : decode cX6_reach 28 = .ok (.istore_n 3, 1) := by decide +kernel
theorem dX6_reach_29 : decode cX6_reach 29 = .ok (.iconst 0, 1) := by decide +kernel
theorem dX6_reach_30 : decode cX6_reach 30 = .ok (.istore 4, 2) := by decide +kernel
theorem dX6_reach_32 : decode cX6_reach 32 = .ok (.iload 4, 2) := by decide +kernel
theorem dX6_reach_34 : decode cX6_reach 34 = .ok (.aload_n 0, 1) := by decide +kernel
theorem dX6_reach_35 : decode cX6_reach 35 = .ok (.getfield 210, 3) := by decide +kernel
theorem dX6_reach_38 : decode cX6_reach 38 = .ok (.if_icmp .ge 117, 3) := by decide +kernel
theorem dX6_reach_41 : decode cX6_reach 41 = .ok (.iconst 1, 1) := by decide +kernel
theorem dX6_reach_42 : decode cX6_reach 42 = .ok (.istore 5, 2) := by decide +kernel
theorem dX6_reach_44 : decode cX6_reach 44 = .ok (.iconst 0, 1) := by decide +kernel
theorem dX6_reach_45 : decode cX6_reach 45 = .ok (.istore 6, 2) := by decide +kernel
theorem dX6_reach_47 : decode cX6_reach 47 = .ok (.iload 6, 2) := by decide +kernel
theorem dX6_reach_49 : decode cX6_reach 49 = .ok (.aload_n 0, 1) := by decide +kernel
theorem dX6_reach_50 : decode cX6_reach 50 = .ok (.getfield 7, 3) := by decide +kernel
theorem dX6_reach_53 : decode cX6_reach 53 = .ok (.iconst 0, 1) := by decide +kernel
theorem dX6_reach_54 : decode cX6_reach 54 = .ok (.iaload, 1) := by decide +kernel
theorem dX6_reach_55 : decode cX6_reach 55 = .ok (.if_icmp .ge 48, 3) := by decide +kernel
theorem dX6_reach_58 : decode cX6_reach 58 = .ok (.iload 5, 2) := by decide +kernel
theorem dX6_reach_60 : decode cX6_reach 60 = .ok (.ifCond .eq 34, 3) := by decide +kernel
theorem dX6_reach_63 : decode cX6_reach 63 = .ok (.aload_n 0, 1) := by decide +kernel
theorem dX6_reach_64 : decode cX6_reach 64 = .ok (.aload_n 0, 1) := by decide +kernel
theorem dX6_reach_65 : decode cX6_reach 65 = .ok (.getfield 41, 3) := by decide +kernel
theorem dX6_reach_68 : decode cX6_reach 68 = .ok (.iload 4, 2) := by decide +kernel
theorem dX6_reach_70 : decode cX6_reach 70 = .ok (.iaload, 1) := by decide +kernel
theorem dX6_reach_71 : decode cX6_reach 71 = .ok (.iload 6, 2) := by decide +kernel
theorem dX6_reach_73 : decode cX6_reach 73 = .ok (.aload_n 0, 1) := by decide +kernel
theorem dX6_reach_74 : decode cX6_reach 74 = .ok (.invokevirtual 176, 3) := by decide +kernel
theorem dX6_reach_77 : decode cX6_reach 77 = .ok (.invokevirtual 179, 3) := by decide +kernel
theorem dX6_reach_80 : decode cX6_reach 80 = .ok (.aload_n 0, 1) := by decide +kernel
theorem dX6_reach_81 : decode cX6_reach 81 = .ok (.getfield 41, 3) := by decide +kernel
theorem dX6_reach_84 : decode cX6_reach 84 = .ok (.iload 4, 2) := by decide +kernel
theorem dX6_reach_86 : decode cX6_reach 86 = .ok (.iaload, 1) := by decide +kernel
theorem dX6_reach_87 : decode cX6_reach 87 = .ok (.if_icmp .ne 7, 3) := by decide +kernel
theorem dX6_reach_90 : decode cX6_reach 90 = .ok (.iconst 1, 1) := by decide +kernel
theorem dX6_reach_91 : decode cX6_reach 91 = .ok (.goto 4, 3) := by decide +kernel
theorem dX6_reach_94 : decode cX6_reach 94 = .ok (.iconst 0, 1) := by decide +kernel
theorem dX6_reach_95 : decode cX6_reach 95 = .ok (.istore 5, 2) := by decide +kernel
theorem dX6_reach_97 : decode cX6_reach 97 = .ok (.iinc 6 1, 3) := by decide +kernel
theorem dX6_reach_100 : decode cX6_reach 100 = .ok (.goto (-53), 3) := by decide +kernel
theorem dX6_reach_103 : decode cX6_reach 103 = .ok (.iload_n 2, 1) := by decide +kernel
theorem dX6_reach_104 : decode cX6_reach 104 = .ok (.iload 5, 2) := by decide +kernel
theorem dX6_reach_106 : decode cX6_reach 106 = .ok (.ifCond .eq 7, 3) := by decide +kernel
theorem dX6_reach_109 : decode cX6_reach 109 = .ok (.iconst 1, 1) := by decide +kernel
theorem dX6_reach_110 : decode cX6_reach 110 = .ok (.goto 4, 3) := by decide +kernel
theorem dX6_reach_113 : decode cX6_reach 113 = .ok (.iconst 0, 1) := by decide +kernel
theorem dX6_reach_114 : decode cX6_reach 114 = .ok (.iadd, 1) := by decide +kernel
theorem dX6_reach_115 : decode cX6_reach 115 = .ok (.istore_n 2, 1) := by decide +kernel
theorem dX6_reach_116 : decode cX6_reach 116 = .ok (.iload 5, 2) := by decide +kernel
theorem dX6_reach_118 : decode cX6_reach 118 = .ok (.ifCond .eq 29, 3) := by decide +kernel
theorem dX6_reach_121 : decode cX6_reach 121 = .ok (.iload_n 3, 1) := by decide +kernel
theorem dX6_reach_122 : decode cX6_reach 122 = .ok (.iconst (-1), 1) := by decide +kernel
theorem dX6_reach_123 : decode cX6_reach 123 = .ok (.if_icmp .eq 14, 3) := by decide +kernel
theorem dX6_reach_126 : decode cX6_reach 126 = .ok (.aload_n 0, 1) := by decide +kernel
theorem dX6_reach_127 : decode cX6_reach 127 = .ok (.getfield 41, 3) := by decide +kernel
theorem dX6_reach_130 : decode cX6_reach 130 = .ok (.iload 4, 2) := by decide +kernel
theorem dX6_reach_132 : decode cX6_reach 132 = .ok (.iaload, 1) := by decide +kernel
theorem dX6_reach_133 : decode cX6_reach 133 = .ok (.iload_n 3, 1) := by decide +kernel
theorem dX6_reach_134 : decode cX6_reach 134 = .ok (.if_icmp .ge 13, 3) := by decide +kernel
theorem dX6_reach_137 : decode cX6_reach 137 = .ok (.aload_n 0, 1) := by decide +kernel
theorem dX6_reach_138 : decode cX6_reach 138 = .ok (.getfield 41, 3) := by decide +kernel
theorem dX6_reach_141 : decode cX6_reach 141 = .ok (.iload 4, 2) := by decide +kernel
theorem dX6_reach_143 : decode cX6_reach 143 = .ok (.iaload, 1) := by decide +kernel
theorem dX6_reach_144 : decode cX6_reach 144 = .ok (.goto 4, 3) := by decide +kernel
theorem dX6_reach_147 : decode cX6_reach 147 = .ok (.iload_n 3, 1) := by decide +kernel
theorem dX6_reach_148 : decode cX6_reach 148 = .ok (.istore_n 3, 1) := by decide +kernel
theorem dX6_reach_149 : decode cX6_reach 149 = .ok (.iinc 4 1, 3) := by decide +kernel
theorem dX6_reach_152 : decode cX6_reach 152 = .ok (.goto (-120), 3) := by decide +kernel
theorem dX6_reach_155 : decode cX6_reach 155 = .ok (.iload_n 1, 1) := by decide +kernel
theorem dX6_reach_156 : decode cX6_reach 156 = .ok (.ifCond .ne 10, 3) := by decide +kernel
theorem dX6_reach_159 : decode cX6_reach 159 = .ok (.aload_n 0, 1) := by decide +kernel
theorem dX6_reach_160 : decode cX6_reach 160 = .ok (.getfield 210, 3) := by decide +kernel
theorem dX6_reach_163 : decode cX6_reach 163 = .ok (.goto 13, 3) := by decide +kernel
theorem dX6_reach_166 : decode cX6_reach 166 = .ok (.iload_n 1, 1) := by decide +kernel
theorem dX6_reach_167 : decode cX6_reach 167 = .ok (.iconst 1, 1) := by decide +kernel
theorem dX6_reach_168 : decode cX6_reach 168 = .ok (.if_icmp .ne 7, 3) := by decide +kernel
theorem dX6_reach_171 : decode cX6_reach 171 = .ok (.iload_n 2, 1) := by decide +kernel
theorem dX6_reach_172 : decode cX6_reach 172 = .ok (.goto 4, 3) := by decide +kernel
theorem dX6_reach_175 : decode cX6_reach 175 = .ok (.iload_n 3, 1) := by decide +kernel
theorem dX6_reach_176 : decode cX6_reach 176 = .ok (.ireturn, 1) := by decide +kernel
theorem dX6_sumBy_0 : decode cX6_sumBy 0 = .ok (.iconst 0, 1) := by decide +kernel
theorem dX6_sumBy_1 : decode cX6_sumBy 1 = .ok (.istore_n 3, 1) := by decide +kernel
theorem dX6_sumBy_2 : decode cX6_sumBy 2 = .ok (.iconst 0, 1) := by decide +kernel
theorem dX6_sumBy_3 : decode cX6_sumBy 3 = .ok (.istore 4, 2) := by decide +kernel
theorem dX6_sumBy_5 : decode cX6_sumBy 5 = .ok (.iload 4, 2) := by decide +kernel
theorem dX6_sumBy_7 : decode cX6_sumBy 7 = .ok (.aload_n 0, 1) := by decide +kernel
theorem dX6_sumBy_8 : decode cX6_sumBy 8 = .ok (.getfield 7, 3) := by decide +kernel
theorem dX6_sumBy_11 : decode cX6_sumBy 11 = .ok (.iconst 0, 1) := by decide +kernel
theorem dX6_sumBy_12 : decode cX6_sumBy 12 = .ok (.iaload, 1) := by decide +kernel
theorem dX6_sumBy_13 : decode cX6_sumBy 13 = .ok (.if_icmp .ge 25, 3) := by decide +kernel
theorem dX6_sumBy_16 : decode cX6_sumBy 16 = .ok (.iload_n 3, 1) := by decide +kernel
theorem dX6_sumBy_17 : decode cX6_sumBy 17 = .ok (.iload_n 1, 1) := by decide +kernel
theorem dX6_sumBy_18 : decode cX6_sumBy 18 = .ok (.iload 4, 2) := by decide +kernel
theorem dX6_sumBy_20 : decode cX6_sumBy 20 = .ok (.invokestatic 64, 3) := by decide +kernel
theorem dX6_sumBy_23 : decode cX6_sumBy 23 = .ok (.iload_n 2, 1) := by decide +kernel
theorem dX6_sumBy_24 : decode cX6_sumBy 24 = .ok (.iload 4, 2) := by decide +kernel
theorem dX6_sumBy_26 : decode cX6_sumBy 26 = .ok (.invokestatic 64, 3) := by decide +kernel
theorem dX6_sumBy_29 : decode cX6_sumBy 29 = .ok (.imul, 1) := by decide +kernel
theorem dX6_sumBy_30 : decode cX6_sumBy 30 = .ok (.iadd, 1) := by decide +kernel
theorem dX6_sumBy_31 : decode cX6_sumBy 31 = .ok (.istore_n 3, 1) := by decide +kernel
theorem dX6_sumBy_32 : decode cX6_sumBy 32 = .ok (.iinc 4 1, 3) := by decide +kernel
theorem dX6_sumBy_35 : decode cX6_sumBy 35 = .ok (.goto (-30), 3) := by decide +kernel
theorem dX6_sumBy_38 : decode cX6_sumBy 38 = .ok (.iload_n 3, 1) := by decide +kernel
theorem dX6_sumBy_39 : decode cX6_sumBy 39 = .ok (.iconst 3, 1) := by decide +kernel
theorem dX6_sumBy_40 : decode cX6_sumBy 40 = .ok (.irem, 1) := by decide +kernel
theorem dX6_sumBy_41 : decode cX6_sumBy 41 = .ok (.ireturn, 1) := by decide +kernel
theorem dX6_kept_0 : decode cX6_kept 0 = .ok (.aload_n 0, 1) := by decide +kernel
theorem dX6_kept_1 : decode cX6_kept 1 = .ok (.aload_n 0, 1) := by decide +kernel
theorem dX6_kept_2 : decode cX6_kept 2 = .ok (.invokevirtual 176, 3) := by decide +kernel
theorem dX6_kept_5 : decode cX6_kept 5 = .ok (.invokevirtual 213, 3) := by decide +kernel
theorem dX6_kept_8 : decode cX6_kept 8 = .ok (.iconst 1, 1) := by decide +kernel
theorem dX6_kept_9 : decode cX6_kept 9 = .ok (.istore_n 1, 1) := by decide +kernel
theorem dX6_kept_10 : decode cX6_kept 10 = .ok (.iload_n 1, 1) := by decide +kernel
theorem dX6_kept_11 : decode cX6_kept 11 = .ok (.aload_n 0, 1) := by decide +kernel
theorem dX6_kept_12 : decode cX6_kept 12 = .ok (.invokevirtual 183, 3) := by decide +kernel
theorem dX6_kept_15 : decode cX6_kept 15 = .ok (.if_icmp .ge 68, 3) := by decide +kernel
theorem dX6_kept_18 : decode cX6_kept 18 = .ok (.iconst 1, 1) := by decide +kernel
theorem dX6_kept_19 : decode cX6_kept 19 = .ok (.istore_n 2, 1) := by decide +kernel
theorem dX6_kept_20 : decode cX6_kept 20 = .ok (.iconst 1, 1) := by decide +kernel
theorem dX6_kept_21 : decode cX6_kept 21 = .ok (.istore_n 3, 1) := by decide +kernel
theorem dX6_kept_22 : decode cX6_kept 22 = .ok (.iload_n 3, 1) := by decide +kernel
theorem dX6_kept_23 : decode cX6_kept 23 = .ok (.aload_n 0, 1) := by decide +kernel
theorem dX6_kept_24 : decode cX6_kept 24 = .ok (.getfield 210, 3) := by decide +kernel
theorem dX6_kept_27 : decode cX6_kept 27 = .ok (.if_icmp .ge 44, 3) := by decide +kernel
theorem dX6_kept_30 : decode cX6_kept 30 = .ok (.iload_n 2, 1) := by decide +kernel
theorem dX6_kept_31 : decode cX6_kept 31 = .ok (.ifCond .eq 40, 3) := by decide +kernel
theorem dX6_kept_34 : decode cX6_kept 34 = .ok (.aload_n 0, 1) := by decide +kernel
theorem dX6_kept_35 : decode cX6_kept 35 = .ok (.iload_n 1, 1) := by decide +kernel
theorem dX6_kept_36 : decode cX6_kept 36 = .ok (.aload_n 0, 1) := by decide +kernel
theorem dX6_kept_37 : decode cX6_kept 37 = .ok (.getfield 41, 3) := by decide +kernel
theorem dX6_kept_40 : decode cX6_kept 40 = .ok (.iload_n 3, 1) := by decide +kernel
theorem dX6_kept_41 : decode cX6_kept 41 = .ok (.iaload, 1) := by decide +kernel
theorem dX6_kept_42 : decode cX6_kept 42 = .ok (.invokevirtual 216, 3) := by decide +kernel
theorem dX6_kept_45 : decode cX6_kept 45 = .ok (.aload_n 0, 1) := by decide +kernel
theorem dX6_kept_46 : decode cX6_kept 46 = .ok (.iload_n 1, 1) := by decide +kernel
theorem dX6_kept_47 : decode cX6_kept 47 = .ok (.aload_n 0, 1) := by decide +kernel
theorem dX6_kept_48 : decode cX6_kept 48 = .ok (.getfield 41, 3) := by decide +kernel
theorem dX6_kept_51 : decode cX6_kept 51 = .ok (.iconst 0, 1) := by decide +kernel
theorem dX6_kept_52 : decode cX6_kept 52 = .ok (.iaload, 1) := by decide +kernel
theorem dX6_kept_53 : decode cX6_kept 53 = .ok (.invokevirtual 216, 3) := by decide +kernel
theorem dX6_kept_56 : decode cX6_kept 56 = .ok (.if_icmp .ne 7, 3) := by decide +kernel
theorem dX6_kept_59 : decode cX6_kept 59 = .ok (.iconst 1, 1) := by decide +kernel
theorem dX6_kept_60 : decode cX6_kept 60 = .ok (.goto 4, 3) := by decide +kernel
theorem dX6_kept_63 : decode cX6_kept 63 = .ok (.iconst 0, 1) := by decide +kernel
theorem dX6_kept_64 : decode cX6_kept 64 = .ok (.istore_n 2, 1) := by decide +kernel
theorem dX6_kept_65 : decode cX6_kept 65 = .ok (.iinc 3 1, 3) := by decide +kernel
theorem dX6_kept_68 : decode cX6_kept 68 = .ok (.goto (-46), 3) := by decide +kernel
theorem dX6_kept_71 : decode cX6_kept 71 = .ok (.iload_n 2, 1) := by decide +kernel
theorem dX6_kept_72 : decode cX6_kept 72 = .ok (.ifCond .eq 5, 3) := by decide +kernel
theorem dX6_kept_75 : decode cX6_kept 75 = .ok (.iload_n 1, 1) := by decide +kernel
theorem dX6_kept_76 : decode cX6_kept 76 = .ok (.ireturn, 1) := by decide +kernel
theorem dX6_kept_77 : decode cX6_kept 77 = .ok (.iinc 1 1, 3) := by decide +kernel
theorem dX6_kept_80 : decode cX6_kept 80 = .ok (.goto (-70), 3) := by decide +kernel
theorem dX6_kept_83 : decode cX6_kept 83 = .ok (.iconst (-1), 1) := by decide +kernel
theorem dX6_kept_84 : decode cX6_kept 84 = .ok (.ireturn, 1) := by decide +kernel
theorem dX6_cut_0 : decode cX6_cut 0 = .ok (.aload_n 0, 1) := by decide +kernel
theorem dX6_cut_1 : decode cX6_cut 1 = .ok (.aload_n 0, 1) := by decide +kernel
theorem dX6_cut_2 : decode cX6_cut 2 = .ok (.invokevirtual 176, 3) := by decide +kernel
theorem dX6_cut_5 : decode cX6_cut 5 = .ok (.invokevirtual 213, 3) := by decide +kernel
theorem dX6_cut_8 : decode cX6_cut 8 = .ok (.aload_n 0, 1) := by decide +kernel
theorem dX6_cut_9 : decode cX6_cut 9 = .ok (.getfield 210, 3) := by decide +kernel
theorem dX6_cut_12 : decode cX6_cut 12 = .ok (.istore_n 1, 1) := by decide +kernel
theorem dX6_cut_13 : decode cX6_cut 13 = .ok (.iconst (-1), 1) := by decide +kernel
theorem dX6_cut_14 : decode cX6_cut 14 = .ok (.istore_n 2, 1) := by decide +kernel
theorem dX6_cut_15 : decode cX6_cut 15 = .ok (.iconst 0, 1) := by decide +kernel
theorem dX6_cut_16 : decode cX6_cut 16 = .ok (.istore_n 3, 1) := by decide +kernel
theorem dX6_cut_17 : decode cX6_cut 17 = .ok (.iload_n 3, 1) := by decide +kernel
theorem dX6_cut_18 : decode cX6_cut 18 = .ok (.aload_n 0, 1) := by decide +kernel
theorem dX6_cut_19 : decode cX6_cut 19 = .ok (.getfield 7, 3) := by decide +kernel
theorem dX6_cut_22 : decode cX6_cut 22 = .ok (.iconst 1, 1) := by decide +kernel
theorem dX6_cut_23 : decode cX6_cut 23 = .ok (.iaload, 1) := by decide +kernel
theorem dX6_cut_24 : decode cX6_cut 24 = .ok (.if_icmp .ge 54, 3) := by decide +kernel
theorem dX6_cut_27 : decode cX6_cut 27 = .ok (.aload_n 0, 1) := by decide +kernel
theorem dX6_cut_28 : decode cX6_cut 28 = .ok (.aload_n 0, 1) := by decide +kernel
theorem dX6_cut_29 : decode cX6_cut 29 = .ok (.invokevirtual 176, 3) := by decide +kernel
theorem dX6_cut_32 : decode cX6_cut 32 = .ok (.iconst 1, 1) := by decide +kernel
theorem dX6_cut_33 : decode cX6_cut 33 = .ok (.iload_n 3, 1) := by decide +kernel
theorem dX6_cut_34 : decode cX6_cut 34 = .ok (.ishl, 1) := by decide +kernel
theorem dX6_cut_35 : decode cX6_cut 35 = .ok (.iconst (-1), 1) := by decide +kernel
theorem dX6_cut_36 : decode cX6_cut 36 = .ok (.ixor, 1) := by decide +kernel
theorem dX6_cut_37 : decode cX6_cut 37 = .ok (.iand, 1) := by decide +kernel
theorem dX6_cut_38 : decode cX6_cut 38 = .ok (.invokevirtual 213, 3) := by decide +kernel
theorem dX6_cut_41 : decode cX6_cut 41 = .ok (.aload_n 0, 1) := by decide +kernel
theorem dX6_cut_42 : decode cX6_cut 42 = .ok (.getfield 210, 3) := by decide +kernel
theorem dX6_cut_45 : decode cX6_cut 45 = .ok (.iload_n 1, 1) := by decide +kernel
theorem dX6_cut_46 : decode cX6_cut 46 = .ok (.if_icmp .le 7, 3) := by decide +kernel
theorem dX6_cut_49 : decode cX6_cut 49 = .ok (.iload_n 3, 1) := by decide +kernel
theorem dX6_cut_50 : decode cX6_cut 50 = .ok (.goto 4, 3) := by decide +kernel
theorem dX6_cut_53 : decode cX6_cut 53 = .ok (.iload_n 2, 1) := by decide +kernel
theorem dX6_cut_54 : decode cX6_cut 54 = .ok (.istore_n 2, 1) := by decide +kernel
theorem dX6_cut_55 : decode cX6_cut 55 = .ok (.aload_n 0, 1) := by decide +kernel
theorem dX6_cut_56 : decode cX6_cut 56 = .ok (.getfield 210, 3) := by decide +kernel
theorem dX6_cut_59 : decode cX6_cut 59 = .ok (.iload_n 1, 1) := by decide +kernel
theorem dX6_cut_60 : decode cX6_cut 60 = .ok (.if_icmp .le 10, 3) := by decide +kernel
theorem dX6_cut_63 : decode cX6_cut 63 = .ok (.aload_n 0, 1) := by decide +kernel
theorem dX6_cut_64 : decode cX6_cut 64 = .ok (.getfield 210, 3) := by decide +kernel
theorem dX6_cut_67 : decode cX6_cut 67 = .ok (.goto 4, 3) := by decide +kernel
theorem dX6_cut_70 : decode cX6_cut 70 = .ok (.iload_n 1, 1) := by decide +kernel
theorem dX6_cut_71 : decode cX6_cut 71 = .ok (.istore_n 1, 1) := by decide +kernel
theorem dX6_cut_72 : decode cX6_cut 72 = .ok (.iinc 3 1, 3) := by decide +kernel
theorem dX6_cut_75 : decode cX6_cut 75 = .ok (.goto (-58), 3) := by decide +kernel
theorem dX6_cut_78 : decode cX6_cut 78 = .ok (.iload_n 2, 1) := by decide +kernel
theorem dX6_cut_79 : decode cX6_cut 79 = .ok (.ireturn, 1) := by decide +kernel
theorem dX6_opens_0 : decode cX6_opens 0 = .ok (.aload_n 0, 1) := by decide +kernel
theorem dX6_opens_1 : decode cX6_opens 1 = .ok (.aload_n 0, 1) := by decide +kernel
theorem dX6_opens_2 : decode cX6_opens 2 = .ok (.invokevirtual 176, 3) := by decide +kernel
theorem dX6_opens_5 : decode cX6_opens 5 = .ok (.invokevirtual 213, 3) := by decide +kernel
theorem dX6_opens_8 : decode cX6_opens 8 = .ok (.iconst 0, 1) := by decide +kernel
theorem dX6_opens_9 : decode cX6_opens 9 = .ok (.istore_n 1, 1) := by decide +kernel
theorem dX6_opens_10 : decode cX6_opens 10 = .ok (.iconst 0, 1) := by decide +kernel
theorem dX6_opens_11 : decode cX6_opens 11 = .ok (.istore_n 2, 1) := by decide +kernel
theorem dX6_opens_12 : decode cX6_opens 12 = .ok (.iload_n 2, 1) := by decide +kernel
theorem dX6_opens_13 : decode cX6_opens 13 = .ok (.aload_n 0, 1) := by decide +kernel
theorem dX6_opens_14 : decode cX6_opens 14 = .ok (.getfield 7, 3) := by decide +kernel
theorem dX6_opens_17 : decode cX6_opens 17 = .ok (.iconst 0, 1) := by decide +kernel
theorem dX6_opens_18 : decode cX6_opens 18 = .ok (.iaload, 1) := by decide +kernel
theorem dX6_opens_19 : decode cX6_opens 19 = .ok (.if_icmp .ge 66, 3) := by decide +kernel
theorem dX6_opens_22 : decode cX6_opens 22 = .ok (.iconst 0, 1) := by decide +kernel
theorem dX6_opens_23 : decode cX6_opens 23 = .ok (.istore_n 3, 1) := by decide +kernel
theorem dX6_opens_24 : decode cX6_opens 24 = .ok (.iconst 0, 1) := by decide +kernel
theorem dX6_opens_25 : decode cX6_opens 25 = .ok (.istore 4, 2) := by decide +kernel
theorem dX6_opens_27 : decode cX6_opens 27 = .ok (.iload 4, 2) := by decide +kernel
theorem dX6_opens_29 : decode cX6_opens 29 = .ok (.aload_n 0, 1) := by decide +kernel
theorem dX6_opens_30 : decode cX6_opens 30 = .ok (.getfield 210, 3) := by decide +kernel
theorem dX6_opens_33 : decode cX6_opens 33 = .ok (.if_icmp .ge 34, 3) := by decide +kernel
theorem dX6_opens_36 : decode cX6_opens 36 = .ok (.iload_n 3, 1) := by decide +kernel
theorem dX6_opens_37 : decode cX6_opens 37 = .ok (.ifCond .ne 18, 3) := by decide +kernel
theorem dX6_opens_40 : decode cX6_opens 40 = .ok (.aload_n 0, 1) := by decide +kernel
theorem dX6_opens_41 : decode cX6_opens 41 = .ok (.getfield 41, 3) := by decide +kernel
theorem dX6_opens_44 : decode cX6_opens 44 = .ok (.iload 4, 2) := by decide +kernel
theorem dX6_opens_46 : decode cX6_opens 46 = .ok (.iaload, 1) := by decide +kernel
theorem dX6_opens_47 : decode cX6_opens 47 = .ok (.iload_n 2, 1) := by decide +kernel
theorem dX6_opens_48 : decode cX6_opens 48 = .ok (.invokestatic 64, 3) := by decide +kernel
theorem dX6_opens_51 : decode cX6_opens 51 = .ok (.iconst 2, 1) := by decide +kernel
theorem dX6_opens_52 : decode cX6_opens 52 = .ok (.if_icmp .ne 7, 3) := by decide +kernel
theorem dX6_opens_55 : decode cX6_opens 55 = .ok (.iconst 1, 1) := by decide +kernel
theorem dX6_opens_56 : decode cX6_opens 56 = .ok (.goto 4, 3) := by decide +kernel
theorem dX6_opens_59 : decode cX6_opens 59 = .ok (.iconst 0, 1) := by decide +kernel
theorem dX6_opens_60 : decode cX6_opens 60 = .ok (.istore_n 3, 1) := by decide +kernel
theorem dX6_opens_61 : decode cX6_opens 61 = .ok (.iinc 4 1, 3) := by decide +kernel
theorem dX6_opens_64 : decode cX6_opens 64 = .ok (.goto (-37), 3) := by decide +kernel
theorem dX6_opens_67 : decode cX6_opens 67 = .ok (.iload_n 1, 1) := by decide +kernel
theorem dX6_opens_68 : decode cX6_opens 68 = .ok (.iload_n 3, 1) := by decide +kernel
theorem dX6_opens_69 : decode cX6_opens 69 = .ok (.ifCond .eq 7, 3) := by decide +kernel
theorem dX6_opens_72 : decode cX6_opens 72 = .ok (.iconst 1, 1) := by decide +kernel
theorem dX6_opens_73 : decode cX6_opens 73 = .ok (.goto 4, 3) := by decide +kernel
theorem dX6_opens_76 : decode cX6_opens 76 = .ok (.iconst 0, 1) := by decide +kernel
theorem dX6_opens_77 : decode cX6_opens 77 = .ok (.iadd, 1) := by decide +kernel
theorem dX6_opens_78 : decode cX6_opens 78 = .ok (.istore_n 1, 1) := by decide +kernel
theorem dX6_opens_79 : decode cX6_opens 79 = .ok (.iinc 2 1, 3) := by decide +kernel
theorem dX6_opens_82 : decode cX6_opens 82 = .ok (.goto (-70), 3) := by decide +kernel
theorem dX6_opens_85 : decode cX6_opens 85 = .ok (.iload_n 1, 1) := by decide +kernel
theorem dX6_opens_86 : decode cX6_opens 86 = .ok (.ireturn, 1) := by decide +kernel
theorem dX6_tie_0 : decode cX6_tie 0 = .ok (.aload_n 0, 1) := by decide +kernel
theorem dX6_tie_1 : decode cX6_tie 1 = .ok (.invokevirtual 219, 3) := by decide +kernel
theorem dX6_tie_4 : decode cX6_tie 4 = .ok (.istore_n 1, 1) := by decide +kernel
theorem dX6_tie_5 : decode cX6_tie 5 = .ok (.iconst (-1), 1) := by decide +kernel
theorem dX6_tie_6 : decode cX6_tie 6 = .ok (.istore_n 2, 1) := by decide +kernel
theorem dX6_tie_7 : decode cX6_tie 7 = .ok (.iconst 0, 1) := by decide +kernel
theorem dX6_tie_8 : decode cX6_tie 8 = .ok (.istore_n 3, 1) := by decide +kernel
theorem dX6_tie_9 : decode cX6_tie 9 = .ok (.iload_n 3, 1) := by decide +kernel
theorem dX6_tie_10 : decode cX6_tie 10 = .ok (.aload_n 0, 1) := by decide +kernel
theorem dX6_tie_11 : decode cX6_tie 11 = .ok (.getfield 7, 3) := by decide +kernel
theorem dX6_tie_14 : decode cX6_tie 14 = .ok (.iconst 0, 1) := by decide +kernel
theorem dX6_tie_15 : decode cX6_tie 15 = .ok (.iaload, 1) := by decide +kernel
theorem dX6_tie_16 : decode cX6_tie 16 = .ok (.if_icmp .ge 132, 3) := by decide +kernel
theorem dX6_tie_19 : decode cX6_tie 19 = .ok (.aload_n 0, 1) := by decide +kernel
theorem dX6_tie_20 : decode cX6_tie 20 = .ok (.getfield 7, 3) := by decide +kernel
theorem dX6_tie_23 : decode cX6_tie 23 = .ok (.iconst 1, 1) := by decide +kernel
theorem dX6_tie_24 : decode cX6_tie 24 = .ok (.iaload, 1) := by decide +kernel
theorem dX6_tie_25 : decode cX6_tie 25 = .ok (.bipush 10, 2) := by decide +kernel
theorem dX6_tie_27 : decode cX6_tie 27 = .ok (.if_icmp .ge 121, 3) := by decide +kernel
theorem dX6_tie_30 : decode cX6_tie 30 = .ok (.iconst 0, 1) := by decide +kernel
theorem dX6_tie_31 : decode cX6_tie 31 = .ok (.istore 4, 2) := by decide +kernel
theorem dX6_tie_33 : decode cX6_tie 33 = .ok (.iload 4, 2) := by decide +kernel
theorem dX6_tie_35 : decode cX6_tie 35 = .ok (.aload_n 0, 1) := by decide +kernel
theorem dX6_tie_36 : decode cX6_tie 36 = .ok (.getfield 7, 3) := by decide +kernel
theorem dX6_tie_39 : decode cX6_tie 39 = .ok (.iconst 0, 1) := by decide +kernel
theorem dX6_tie_40 : decode cX6_tie 40 = .ok (.iaload, 1) := by decide +kernel
theorem dX6_tie_41 : decode cX6_tie 41 = .ok (.if_icmp .ge 101, 3) := by decide +kernel
theorem dX6_tie_44 : decode cX6_tie 44 = .ok (.iconst 1, 1) := by decide +kernel
theorem dX6_tie_45 : decode cX6_tie 45 = .ok (.istore 5, 2) := by decide +kernel
theorem dX6_tie_47 : decode cX6_tie 47 = .ok (.iload 5, 2) := by decide +kernel
theorem dX6_tie_49 : decode cX6_tie 49 = .ok (.ifCond .lt 87, 3) := by decide +kernel
theorem dX6_tie_52 : decode cX6_tie 52 = .ok (.iload_n 3, 1) := by decide +kernel
theorem dX6_tie_53 : decode cX6_tie 53 = .ok (.iload 4, 2) := by decide +kernel
theorem dX6_tie_55 : decode cX6_tie 55 = .ok (.if_icmp .eq 81, 3) := by decide +kernel
theorem dX6_tie_58 : decode cX6_tie 58 = .ok (.aload_n 0, 1) := by decide +kernel
theorem dX6_tie_59 : decode cX6_tie 59 = .ok (.iload_n 3, 1) := by decide +kernel
theorem dX6_tie_60 : decode cX6_tie 60 = .ok (.iload 4, 2) := by decide +kernel
theorem dX6_tie_62 : decode cX6_tie 62 = .ok (.iconst 0, 1) := by decide +kernel
theorem dX6_tie_63 : decode cX6_tie 63 = .ok (.iload 5, 2) := by decide +kernel
theorem dX6_tie_65 : decode cX6_tie 65 = .ok (.iconst 1, 1) := by decide +kernel
theorem dX6_tie_66 : decode cX6_tie 66 = .ok (.if_icmp .ne 7, 3) := by decide +kernel
theorem dX6_tie_69 : decode cX6_tie 69 = .ok (.iconst 1, 1) := by decide +kernel
theorem dX6_tie_70 : decode cX6_tie 70 = .ok (.goto 4, 3) := by decide +kernel
theorem dX6_tie_73 : decode cX6_tie 73 = .ok (.iconst (-1), 1) := by decide +kernel
theorem dX6_tie_74 : decode cX6_tie 74 = .ok (.invokevirtual 94, 3) := by decide +kernel
theorem dX6_tie_77 : decode cX6_tie 77 = .ok (.aload_n 0, 1) := by decide +kernel
theorem dX6_tie_78 : decode cX6_tie 78 = .ok (.invokevirtual 219, 3) := by decide +kernel
theorem dX6_tie_81 : decode cX6_tie 81 = .ok (.istore 6, 2) := by decide +kernel
theorem dX6_tie_83 : decode cX6_tie 83 = .ok (.aload_n 0, 1) := by decide +kernel
theorem dX6_tie_84 : decode cX6_tie 84 = .ok (.getfield 7, 3) := by decide +kernel
theorem dX6_tie_87 : decode cX6_tie 87 = .ok (.iconst 1, 1) := by decide +kernel
theorem dX6_tie_88 : decode cX6_tie 88 = .ok (.dup2, 1) := by decide +kernel
theorem dX6_tie_89 : decode cX6_tie 89 = .ok (.iaload, 1) := by decide +kernel
theorem dX6_tie_90 : decode cX6_tie 90 = .ok (.iconst 1, 1) := by decide +kernel
theorem dX6_tie_91 : decode cX6_tie 91 = .ok (.isub, 1) := by decide +kernel
theorem dX6_tie_92 : decode cX6_tie 92 = .ok (.iastore, 1) := by decide +kernel
theorem dX6_tie_93 : decode cX6_tie 93 = .ok (.iload 6, 2) := by decide +kernel
theorem dX6_tie_95 : decode cX6_tie 95 = .ok (.iload_n 1, 1) := by decide +kernel
theorem dX6_tie_96 : decode cX6_tie 96 = .ok (.if_icmp .le 19, 3) := by decide +kernel
theorem dX6_tie_99 : decode cX6_tie 99 = .ok (.bipush 100, 2) := by decide +kernel
theorem dX6_tie_101 : decode cX6_tie 101 = .ok (.iload_n 3, 1) := by decide +kernel
theorem dX6_tie_102 : decode cX6_tie 102 = .ok (.imul, 1) := by decide +kernel
theorem dX6_tie_103 : decode cX6_tie 103 = .ok (.bipush 10, 2) := by decide +kernel
theorem dX6_tie_105 : decode cX6_tie 105 = .ok (.iload 4, 2) := by decide +kernel
theorem dX6_tie_107 : decode cX6_tie 107 = .ok (.imul, 1) := by decide +kernel
theorem dX6_tie_108 : decode cX6_tie 108 = .ok (.iadd, 1) := by decide +kernel
theorem dX6_tie_109 : decode cX6_tie 109 = .ok (.iload 5, 2) := by decide +kernel
theorem dX6_tie_111 : decode cX6_tie 111 = .ok (.iadd, 1) := by decide +kernel
theorem dX6_tie_112 : decode cX6_tie 112 = .ok (.goto 4, 3) := by decide +kernel
theorem dX6_tie_115 : decode cX6_tie 115 = .ok (.iload_n 2, 1) := by decide +kernel
theorem dX6_tie_116 : decode cX6_tie 116 = .ok (.istore_n 2, 1) := by decide +kernel
theorem dX6_tie_117 : decode cX6_tie 117 = .ok (.iload 6, 2) := by decide +kernel
theorem dX6_tie_119 : decode cX6_tie 119 = .ok (.iload_n 1, 1) := by decide +kernel
theorem dX6_tie_120 : decode cX6_tie 120 = .ok (.if_icmp .le 8, 3) := by decide +kernel
theorem dX6_tie_123 : decode cX6_tie 123 = .ok (.iload 6, 2) := by decide +kernel
theorem dX6_tie_125 : decode cX6_tie 125 = .ok (.goto 4, 3) := by decide +kernel
theorem dX6_tie_128 : decode cX6_tie 128 = .ok (.iload_n 1, 1) := by decide +kernel
theorem dX6_tie_129 : decode cX6_tie 129 = .ok (.istore_n 1, 1) := by decide +kernel
theorem dX6_tie_130 : decode cX6_tie 130 = .ok (.iinc 5 (-1), 3) := by decide +kernel
theorem dX6_tie_133 : decode cX6_tie 133 = .ok (.goto (-86), 3) := by decide +kernel
theorem dX6_tie_136 : decode cX6_tie 136 = .ok (.iinc 4 1, 3) := by decide +kernel
theorem dX6_tie_139 : decode cX6_tie 139 = .ok (.goto (-106), 3) := by decide +kernel
theorem dX6_tie_142 : decode cX6_tie 142 = .ok (.iinc 3 1, 3) := by decide +kernel
theorem dX6_tie_145 : decode cX6_tie 145 = .ok (.goto (-136), 3) := by decide +kernel
theorem dX6_tie_148 : decode cX6_tie 148 = .ok (.iload_n 2, 1) := by decide +kernel
theorem dX6_tie_149 : decode cX6_tie 149 = .ok (.ireturn, 1) := by decide +kernel
theorem dX6_days_0 : decode cX6_days 0 = .ok (.iconst 0, 1) := by decide +kernel
theorem dX6_days_1 : decode cX6_days 1 = .ok (.istore_n 1, 1) := by decide +kernel
theorem dX6_days_2 : decode cX6_days 2 = .ok (.iconst 0, 1) := by decide +kernel
theorem dX6_days_3 : decode cX6_days 3 = .ok (.istore_n 2, 1) := by decide +kernel
theorem dX6_days_4 : decode cX6_days 4 = .ok (.aload_n 0, 1) := by decide +kernel
theorem dX6_days_5 : decode cX6_days 5 = .ok (.iconst 0, 1) := by decide +kernel
theorem dX6_days_6 : decode cX6_days 6 = .ok (.putfield 222, 3) := by decide +kernel
theorem dX6_days_9 : decode cX6_days 9 = .ok (.iconst 1, 1) := by decide +kernel
theorem dX6_days_10 : decode cX6_days 10 = .ok (.istore_n 3, 1) := by decide +kernel
theorem dX6_days_11 : decode cX6_days 11 = .ok (.iload_n 3, 1) := by decide +kernel
theorem dX6_days_12 : decode cX6_days 12 = .ok (.ifCond .eq 187, 3) := by decide +kernel
theorem dX6_days_15 : decode cX6_days 15 = .ok (.aload_n 0, 1) := by decide +kernel
theorem dX6_days_16 : decode cX6_days 16 = .ok (.getfield 222, 3) := by decide +kernel
theorem dX6_days_19 : decode cX6_days 19 = .ok (.aload_n 0, 1) := by decide +kernel
theorem dX6_days_20 : decode cX6_days 20 = .ok (.getfield 7, 3) := by decide +kernel
theorem dX6_days_23 : decode cX6_days 23 = .ok (.iconst 2, 1) := by decide +kernel
theorem dX6_days_24 : decode cX6_days 24 = .ok (.iaload, 1) := by decide +kernel
theorem dX6_days_25 : decode cX6_days 25 = .ok (.if_icmp .ge 174, 3) := by decide +kernel
theorem dX6_days_28 : decode cX6_days 28 = .ok (.iconst (-1), 1) := by decide +kernel
theorem dX6_days_29 : decode cX6_days 29 = .ok (.istore 4, 2) := by decide +kernel
theorem dX6_days_31 : decode cX6_days 31 = .ok (.iconst (-1), 1) := by decide +kernel
theorem dX6_days_32 : decode cX6_days 32 = .ok (.istore 5, 2) := by decide +kernel
theorem dX6_days_34 : decode cX6_days 34 = .ok (.iconst 0, 1) := by decide +kernel
theorem dX6_days_35 : decode cX6_days 35 = .ok (.istore 6, 2) := by decide +kernel
theorem dX6_days_37 : decode cX6_days 37 = .ok (.iload 6, 2) := by decide +kernel
theorem dX6_days_39 : decode cX6_days 39 = .ok (.aload_n 0, 1) := by decide +kernel
theorem dX6_days_40 : decode cX6_days 40 = .ok (.getfield 7, 3) := by decide +kernel
theorem dX6_days_43 : decode cX6_days 43 = .ok (.iconst 0, 1) := by decide +kernel
theorem dX6_days_44 : decode cX6_days 44 = .ok (.iaload, 1) := by decide +kernel
theorem dX6_days_45 : decode cX6_days 45 = .ok (.if_icmp .ge 82, 3) := by decide +kernel
theorem dX6_days_48 : decode cX6_days 48 = .ok (.aload_n 0, 1) := by decide +kernel
theorem dX6_days_49 : decode cX6_days 49 = .ok (.getfield 7, 3) := by decide +kernel
theorem dX6_days_52 : decode cX6_days 52 = .ok (.bipush 9, 2) := by decide +kernel
theorem dX6_days_54 : decode cX6_days 54 = .ok (.iload 6, 2) := by decide +kernel
theorem dX6_days_56 : decode cX6_days 56 = .ok (.iadd, 1) := by decide +kernel
theorem dX6_days_57 : decode cX6_days 57 = .ok (.iaload, 1) := by decide +kernel
theorem dX6_days_58 : decode cX6_days 58 = .ok (.aload_n 0, 1) := by decide +kernel
theorem dX6_days_59 : decode cX6_days 59 = .ok (.getfield 7, 3) := by decide +kernel
theorem dX6_days_62 : decode cX6_days 62 = .ok (.bipush 56, 2) := by decide +kernel
theorem dX6_days_64 : decode cX6_days 64 = .ok (.aload_n 0, 1) := by decide +kernel
theorem dX6_days_65 : decode cX6_days 65 = .ok (.getfield 222, 3) := by decide +kernel
theorem dX6_days_68 : decode cX6_days 68 = .ok (.iadd, 1) := by decide +kernel
theorem dX6_days_69 : decode cX6_days 69 = .ok (.iaload, 1) := by decide +kernel
theorem dX6_days_70 : decode cX6_days 70 = .ok (.if_icmp .ne 51, 3) := by decide +kernel
theorem dX6_days_73 : decode cX6_days 73 = .ok (.aload_n 0, 1) := by decide +kernel
theorem dX6_days_74 : decode cX6_days 74 = .ok (.iconst 1, 1) := by decide +kernel
theorem dX6_days_75 : decode cX6_days 75 = .ok (.iload 6, 2) := by decide +kernel
theorem dX6_days_77 : decode cX6_days 77 = .ok (.ishl, 1) := by decide +kernel
theorem dX6_days_78 : decode cX6_days 78 = .ok (.iconst 0, 1) := by decide +kernel
theorem dX6_days_79 : decode cX6_days 79 = .ok (.iconst 0, 1) := by decide +kernel
theorem dX6_days_80 : decode cX6_days 80 = .ok (.invokevirtual 199, 3) := by decide +kernel
theorem dX6_days_83 : decode cX6_days 83 = .ok (.aload_n 0, 1) := by decide +kernel
theorem dX6_days_84 : decode cX6_days 84 = .ok (.getfield 35, 3) := by decide +kernel
theorem dX6_days_87 : decode cX6_days 87 = .ok (.iload_n 1, 1) := by decide +kernel
theorem dX6_days_88 : decode cX6_days 88 = .ok (.iaload, 1) := by decide +kernel
theorem dX6_days_89 : decode cX6_days 89 = .ok (.ifCond .lt 32, 3) := by decide +kernel
theorem dX6_days_92 : decode cX6_days 92 = .ok (.iload 5, 2) := by decide +kernel
theorem dX6_days_94 : decode cX6_days 94 = .ok (.iconst (-1), 1) := by decide +kernel
theorem dX6_days_95 : decode cX6_days 95 = .ok (.if_icmp .eq 14, 3) := by decide +kernel
theorem dX6_days_98 : decode cX6_days 98 = .ok (.aload_n 0, 1) := by decide +kernel
theorem dX6_days_99 : decode cX6_days 99 = .ok (.getfield 35, 3) := by decide +kernel
theorem dX6_days_102 : decode cX6_days 102 = .ok (.iload_n 1, 1) := by decide +kernel
theorem dX6_days_103 : decode cX6_days 103 = .ok (.iaload, 1) := by decide +kernel
theorem dX6_days_104 : decode cX6_days 104 = .ok (.iload 5, 2) := by decide +kernel
theorem dX6_days_106 : decode cX6_days 106 = .ok (.if_icmp .ge 15, 3) := by decide +kernel
theorem dX6_days_109 : decode cX6_days 109 = .ok (.aload_n 0, 1) := by decide +kernel
theorem dX6_days_110 : decode cX6_days 110 = .ok (.getfield 35, 3) := by decide +kernel
theorem dX6_days_113 : decode cX6_days 113 = .ok (.iload_n 1, 1) := by decide +kernel
theorem dX6_days_114 : decode cX6_days 114 = .ok (.iaload, 1) := by decide +kernel
theorem dX6_days_115 : decode cX6_days 115 = .ok (.istore 5, 2) := by decide +kernel
theorem dX6_days_117 : decode cX6_days 117 = .ok (.iload 6, 2) := by decide +kernel
theorem dX6_days_119 : decode cX6_days 119 = .ok (.istore 4, 2) := by decide +kernel
theorem dX6_days_121 : decode cX6_days 121 = .ok (.iinc 6 1, 3) := by decide +kernel
theorem dX6_days_124 : decode cX6_days 124 = .ok (.goto (-87), 3) := by decide +kernel
theorem dX6_days_127 : decode cX6_days 127 = .ok (.iload 4, 2) := by decide +kernel
theorem dX6_days_129 : decode cX6_days 129 = .ok (.iconst (-1), 1) := by decide +kernel
theorem dX6_days_130 : decode cX6_days 130 = .ok (.if_icmp .eq 7, 3) := by decide +kernel
theorem dX6_days_133 : decode cX6_days 133 = .ok (.iconst 1, 1) := by decide +kernel
theorem dX6_days_134 : decode cX6_days 134 = .ok (.goto 4, 3) := by decide +kernel
theorem dX6_days_137 : decode cX6_days 137 = .ok (.iconst 0, 1) := by decide +kernel
theorem dX6_days_138 : decode cX6_days 138 = .ok (.istore_n 3, 1) := by decide +kernel
theorem dX6_days_139 : decode cX6_days 139 = .ok (.iload_n 3, 1) := by decide +kernel
theorem dX6_days_140 : decode cX6_days 140 = .ok (.ifCond .eq 56, 3) := by decide +kernel
theorem dX6_days_143 : decode cX6_days 143 = .ok (.aload_n 0, 1) := by decide +kernel
theorem dX6_days_144 : decode cX6_days 144 = .ok (.iconst 1, 1) := by decide +kernel
theorem dX6_days_145 : decode cX6_days 145 = .ok (.iload 4, 2) := by decide +kernel
theorem dX6_days_147 : decode cX6_days 147 = .ok (.ishl, 1) := by decide +kernel
theorem dX6_days_148 : decode cX6_days 148 = .ok (.iconst 0, 1) := by decide +kernel
theorem dX6_days_149 : decode cX6_days 149 = .ok (.iconst 0, 1) := by decide +kernel
theorem dX6_days_150 : decode cX6_days 150 = .ok (.invokevirtual 199, 3) := by decide +kernel
theorem dX6_days_153 : decode cX6_days 153 = .ok (.iload_n 2, 1) := by decide +kernel
theorem dX6_days_154 : decode cX6_days 154 = .ok (.iload 5, 2) := by decide +kernel
theorem dX6_days_156 : decode cX6_days 156 = .ok (.iadd, 1) := by decide +kernel
theorem dX6_days_157 : decode cX6_days 157 = .ok (.istore_n 2, 1) := by decide +kernel
theorem dX6_days_158 : decode cX6_days 158 = .ok (.aload_n 0, 1) := by decide +kernel
theorem dX6_days_159 : decode cX6_days 159 = .ok (.getfield 35, 3) := by decide +kernel
theorem dX6_days_162 : decode cX6_days 162 = .ok (.iload_n 1, 1) := by decide +kernel
theorem dX6_days_163 : decode cX6_days 163 = .ok (.iaload, 1) := by decide +kernel
theorem dX6_days_164 : decode cX6_days 164 = .ok (.ifCond .le 22, 3) := by decide +kernel
theorem dX6_days_167 : decode cX6_days 167 = .ok (.aload_n 0, 1) := by decide +kernel
theorem dX6_days_168 : decode cX6_days 168 = .ok (.getfield 32, 3) := by decide +kernel
theorem dX6_days_171 : decode cX6_days 171 = .ok (.bipush 7, 2) := by decide +kernel
theorem dX6_days_173 : decode cX6_days 173 = .ok (.iload_n 1, 1) := by decide +kernel
theorem dX6_days_174 : decode cX6_days 174 = .ok (.imul, 1) := by decide +kernel
theorem dX6_days_175 : decode cX6_days 175 = .ok (.aload_n 0, 1) := by decide +kernel
theorem dX6_days_176 : decode cX6_days 176 = .ok (.iload_n 1, 1) := by decide +kernel
theorem dX6_days_177 : decode cX6_days 177 = .ok (.invokevirtual 203, 3) := by decide +kernel
theorem dX6_days_180 : decode cX6_days 180 = .ok (.iadd, 1) := by decide +kernel
theorem dX6_days_181 : decode cX6_days 181 = .ok (.iaload, 1) := by decide +kernel
theorem dX6_days_182 : decode cX6_days 182 = .ok (.istore_n 1, 1) := by decide +kernel
theorem dX6_days_183 : decode cX6_days 183 = .ok (.goto (-25), 3) := by decide +kernel
theorem dX6_days_186 : decode cX6_days 186 = .ok (.aload_n 0, 1) := by decide +kernel
theorem dX6_days_187 : decode cX6_days 187 = .ok (.dup, 1) := by decide +kernel
theorem dX6_days_188 : decode cX6_days 188 = .ok (.getfield 222, 3) := by decide +kernel
theorem dX6_days_191 : decode cX6_days 191 = .ok (.iconst 1, 1) := by decide +kernel
theorem dX6_days_192 : decode cX6_days 192 = .ok (.iadd, 1) := by decide +kernel
theorem dX6_days_193 : decode cX6_days 193 = .ok (.putfield 222, 3) := by decide +kernel
theorem dX6_days_196 : decode cX6_days 196 = .ok (.goto (-185), 3) := by decide +kernel
theorem dX6_days_199 : decode cX6_days 199 = .ok (.iload_n 2, 1) := by decide +kernel
theorem dX6_days_200 : decode cX6_days 200 = .ok (.ireturn, 1) := by decide +kernel
theorem dX6_day_0 : decode cX6_day 0 = .ok (.iload_n 1, 1) := by decide +kernel
theorem dX6_day_1 : decode cX6_day 1 = .ok (.i2l, 1) := by decide +kernel
theorem dX6_day_2 : decode cX6_day 2 = .ok (.lconst 0, 1) := by decide +kernel
theorem dX6_day_3 : decode cX6_day 3 = .ok (.lconst 1, 1) := by decide +kernel
theorem dX6_day_4 : decode cX6_day 4 = .ok (.invokestatic 56, 3) := by decide +kernel
theorem dX6_day_7 : decode cX6_day 7 = .ok (.ifCond .ne 8, 3) := by decide +kernel
theorem dX6_day_10 : decode cX6_day 10 = .ok (.aload_n 0, 1) := by decide +kernel
theorem dX6_day_11 : decode cX6_day 11 = .ok (.invokevirtual 79, 3) := by decide +kernel
theorem dX6_day_14 : decode cX6_day 14 = .ok (.ireturn, 1) := by decide +kernel
theorem dX6_day_15 : decode cX6_day 15 = .ok (.aload_n 0, 1) := by decide +kernel
theorem dX6_day_16 : decode cX6_day 16 = .ok (.invokevirtual 196, 3) := by decide +kernel
theorem dX6_day_19 : decode cX6_day 19 = .ok (.aload_n 0, 1) := by decide +kernel
theorem dX6_day_20 : decode cX6_day 20 = .ok (.invokevirtual 225, 3) := by decide +kernel
theorem dX6_day_23 : decode cX6_day 23 = .ok (.istore_n 2, 1) := by decide +kernel
theorem dX6_day_24 : decode cX6_day 24 = .ok (.iload_n 1, 1) := by decide +kernel
theorem dX6_day_25 : decode cX6_day 25 = .ok (.ifCond .ne 7, 3) := by decide +kernel
theorem dX6_day_28 : decode cX6_day 28 = .ok (.iload_n 2, 1) := by decide +kernel
theorem dX6_day_29 : decode cX6_day 29 = .ok (.goto 7, 3) := by decide +kernel
theorem dX6_day_32 : decode cX6_day 32 = .ok (.aload_n 0, 1) := by decide +kernel
theorem dX6_day_33 : decode cX6_day 33 = .ok (.getfield 222, 3) := by decide +kernel
theorem dX6_day_36 : decode cX6_day 36 = .ok (.ireturn, 1) := by decide +kernel
theorem dX6_swaps_0 : decode cX6_swaps 0 = .ok (.aload_n 0, 1) := by decide +kernel
theorem dX6_swaps_1 : decode cX6_swaps 1 = .ok (.getfield 7, 3) := by decide +kernel
theorem dX6_swaps_4 : decode cX6_swaps 4 = .ok (.bipush 9, 2) := by decide +kernel
theorem dX6_swaps_6 : decode cX6_swaps 6 = .ok (.iload_n 1, 1) := by decide +kernel
theorem dX6_swaps_7 : decode cX6_swaps 7 = .ok (.iadd, 1) := by decide +kernel
theorem dX6_swaps_8 : decode cX6_swaps 8 = .ok (.iaload, 1) := by decide +kernel
theorem dX6_swaps_9 : decode cX6_swaps 9 = .ok (.istore_n 3, 1) := by decide +kernel
theorem dX6_swaps_10 : decode cX6_swaps 10 = .ok (.aload_n 0, 1) := by decide +kernel
theorem dX6_swaps_11 : decode cX6_swaps 11 = .ok (.getfield 7, 3) := by decide +kernel
theorem dX6_swaps_14 : decode cX6_swaps 14 = .ok (.bipush 9, 2) := by decide +kernel
theorem dX6_swaps_16 : decode cX6_swaps 16 = .ok (.iload_n 1, 1) := by decide +kernel
theorem dX6_swaps_17 : decode cX6_swaps 17 = .ok (.iadd, 1) := by decide +kernel
theorem dX6_swaps_18 : decode cX6_swaps 18 = .ok (.aload_n 0, 1) := by decide +kernel
theorem dX6_swaps_19 : decode cX6_swaps 19 = .ok (.getfield 7, 3) := by decide +kernel
theorem dX6_swaps_22 : decode cX6_swaps 22 = .ok (.bipush 9, 2) := by decide +kernel
theorem dX6_swaps_24 : decode cX6_swaps 24 = .ok (.iload_n 2, 1) := by decide +kernel
theorem dX6_swaps_25 : decode cX6_swaps 25 = .ok (.iadd, 1) := by decide +kernel
theorem dX6_swaps_26 : decode cX6_swaps 26 = .ok (.iaload, 1) := by decide +kernel
theorem dX6_swaps_27 : decode cX6_swaps 27 = .ok (.iastore, 1) := by decide +kernel
theorem dX6_swaps_28 : decode cX6_swaps 28 = .ok (.aload_n 0, 1) := by decide +kernel
theorem dX6_swaps_29 : decode cX6_swaps 29 = .ok (.getfield 7, 3) := by decide +kernel
theorem dX6_swaps_32 : decode cX6_swaps 32 = .ok (.bipush 9, 2) := by decide +kernel
theorem dX6_swaps_34 : decode cX6_swaps 34 = .ok (.iload_n 2, 1) := by decide +kernel
theorem dX6_swaps_35 : decode cX6_swaps 35 = .ok (.iadd, 1) := by decide +kernel
theorem dX6_swaps_36 : decode cX6_swaps 36 = .ok (.iload_n 3, 1) := by decide +kernel
theorem dX6_swaps_37 : decode cX6_swaps 37 = .ok (.iastore, 1) := by decide +kernel
theorem dX6_swaps_38 : decode cX6_swaps 38 = .ok (.return_, 1) := by decide +kernel
theorem dX6_laid_0 : decode cX6_laid 0 = .ok (.aload_n 0, 1) := by decide +kernel
theorem dX6_laid_1 : decode cX6_laid 1 = .ok (.invokevirtual 196, 3) := by decide +kernel
theorem dX6_laid_4 : decode cX6_laid 4 = .ok (.aload_n 0, 1) := by decide +kernel
theorem dX6_laid_5 : decode cX6_laid 5 = .ok (.invokevirtual 225, 3) := by decide +kernel
theorem dX6_laid_8 : decode cX6_laid 8 = .ok (.istore_n 1, 1) := by decide +kernel
theorem dX6_laid_9 : decode cX6_laid 9 = .ok (.aload_n 0, 1) := by decide +kernel
theorem dX6_laid_10 : decode cX6_laid 10 = .ok (.getfield 222, 3) := by decide +kernel
theorem dX6_laid_13 : decode cX6_laid 13 = .ok (.istore_n 2, 1) := by decide +kernel
theorem dX6_laid_14 : decode cX6_laid 14 = .ok (.iconst (-1), 1) := by decide +kernel
theorem dX6_laid_15 : decode cX6_laid 15 = .ok (.istore_n 3, 1) := by decide +kernel
theorem dX6_laid_16 : decode cX6_laid 16 = .ok (.iconst 0, 1) := by decide +kernel
theorem dX6_laid_17 : decode cX6_laid 17 = .ok (.istore 4, 2) := by decide +kernel
theorem dX6_laid_19 : decode cX6_laid 19 = .ok (.iload 4, 2) := by decide +kernel
theorem dX6_laid_21 : decode cX6_laid 21 = .ok (.aload_n 0, 1) := by decide +kernel
theorem dX6_laid_22 : decode cX6_laid 22 = .ok (.getfield 7, 3) := by decide +kernel
theorem dX6_laid_25 : decode cX6_laid 25 = .ok (.iconst 0, 1) := by decide +kernel
theorem dX6_laid_26 : decode cX6_laid 26 = .ok (.iaload, 1) := by decide +kernel
theorem dX6_laid_27 : decode cX6_laid 27 = .ok (.if_icmp .ge 127, 3) := by decide +kernel
theorem dX6_laid_30 : decode cX6_laid 30 = .ok (.iload 4, 2) := by decide +kernel
theorem dX6_laid_32 : decode cX6_laid 32 = .ok (.iconst 1, 1) := by decide +kernel
theorem dX6_laid_33 : decode cX6_laid 33 = .ok (.iadd, 1) := by decide +kernel
theorem dX6_laid_34 : decode cX6_laid 34 = .ok (.istore 5, 2) := by decide +kernel
theorem dX6_laid_36 : decode cX6_laid 36 = .ok (.iload 5, 2) := by decide +kernel
theorem dX6_laid_38 : decode cX6_laid 38 = .ok (.aload_n 0, 1) := by decide +kernel
theorem dX6_laid_39 : decode cX6_laid 39 = .ok (.getfield 7, 3) := by decide +kernel
theorem dX6_laid_42 : decode cX6_laid 42 = .ok (.iconst 0, 1) := by decide +kernel
theorem dX6_laid_43 : decode cX6_laid 43 = .ok (.iaload, 1) := by decide +kernel
theorem dX6_laid_44 : decode cX6_laid 44 = .ok (.if_icmp .ge 104, 3) := by decide +kernel
theorem dX6_laid_47 : decode cX6_laid 47 = .ok (.aload_n 0, 1) := by decide +kernel
theorem dX6_laid_48 : decode cX6_laid 48 = .ok (.iload 4, 2) := by decide +kernel
theorem dX6_laid_50 : decode cX6_laid 50 = .ok (.iload 5, 2) := by decide +kernel
theorem dX6_laid_52 : decode cX6_laid 52 = .ok (.invokevirtual 228, 3) := by decide +kernel
theorem dX6_laid_55 : decode cX6_laid 55 = .ok (.aload_n 0, 1) := by decide +kernel
theorem dX6_laid_56 : decode cX6_laid 56 = .ok (.invokevirtual 225, 3) := by decide +kernel
theorem dX6_laid_59 : decode cX6_laid 59 = .ok (.istore 6, 2) := by decide +kernel
theorem dX6_laid_61 : decode cX6_laid 61 = .ok (.aload_n 0, 1) := by decide +kernel
theorem dX6_laid_62 : decode cX6_laid 62 = .ok (.iload 4, 2) := by decide +kernel
theorem dX6_laid_64 : decode cX6_laid 64 = .ok (.iload 5, 2) := by decide +kernel
theorem dX6_laid_66 : decode cX6_laid 66 = .ok (.invokevirtual 228, 3) := by decide +kernel
theorem dX6_laid_69 : decode cX6_laid 69 = .ok (.aload_n 0, 1) := by decide +kernel
theorem dX6_laid_70 : decode cX6_laid 70 = .ok (.getfield 222, 3) := by decide +kernel
theorem dX6_laid_73 : decode cX6_laid 73 = .ok (.iload_n 2, 1) := by decide +kernel
theorem dX6_laid_74 : decode cX6_laid 74 = .ok (.if_icmp .gt 17, 3) := by decide +kernel
theorem dX6_laid_77 : decode cX6_laid 77 = .ok (.aload_n 0, 1) := by decide +kernel
theorem dX6_laid_78 : decode cX6_laid 78 = .ok (.getfield 222, 3) := by decide +kernel
theorem dX6_laid_81 : decode cX6_laid 81 = .ok (.iload_n 2, 1) := by decide +kernel
theorem dX6_laid_82 : decode cX6_laid 82 = .ok (.if_icmp .ne 13, 3) := by decide +kernel
theorem dX6_laid_85 : decode cX6_laid 85 = .ok (.iload 6, 2) := by decide +kernel
theorem dX6_laid_87 : decode cX6_laid 87 = .ok (.iload_n 1, 1) := by decide +kernel
theorem dX6_laid_88 : decode cX6_laid 88 = .ok (.if_icmp .ge 7, 3) := by decide +kernel
theorem dX6_laid_91 : decode cX6_laid 91 = .ok (.iconst 1, 1) := by decide +kernel
theorem dX6_laid_92 : decode cX6_laid 92 = .ok (.goto 4, 3) := by decide +kernel
theorem dX6_laid_95 : decode cX6_laid 95 = .ok (.iconst 0, 1) := by decide +kernel
theorem dX6_laid_96 : decode cX6_laid 96 = .ok (.istore 7, 2) := by decide +kernel
theorem dX6_laid_98 : decode cX6_laid 98 = .ok (.iload 7, 2) := by decide +kernel
theorem dX6_laid_100 : decode cX6_laid 100 = .ok (.ifCond .eq 14, 3) := by decide +kernel
theorem dX6_laid_103 : decode cX6_laid 103 = .ok (.bipush 10, 2) := by decide +kernel
theorem dX6_laid_105 : decode cX6_laid 105 = .ok (.iload 4, 2) := by decide +kernel
theorem dX6_laid_107 : decode cX6_laid 107 = .ok (.imul, 1) := by decide +kernel
theorem dX6_laid_108 : decode cX6_laid 108 = .ok (.iload 5, 2) := by decide +kernel
theorem dX6_laid_110 : decode cX6_laid 110 = .ok (.iadd, 1) := by decide +kernel
theorem dX6_laid_111 : decode cX6_laid 111 = .ok (.goto 4, 3) := by decide +kernel
theorem dX6_laid_114 : decode cX6_laid 114 = .ok (.iload_n 3, 1) := by decide +kernel
theorem dX6_laid_115 : decode cX6_laid 115 = .ok (.istore_n 3, 1) := by decide +kernel
theorem dX6_laid_116 : decode cX6_laid 116 = .ok (.iload 7, 2) := by decide +kernel
theorem dX6_laid_118 : decode cX6_laid 118 = .ok (.ifCond .eq 8, 3) := by decide +kernel
theorem dX6_laid_121 : decode cX6_laid 121 = .ok (.iload 6, 2) := by decide +kernel
theorem dX6_laid_123 : decode cX6_laid 123 = .ok (.goto 4, 3) := by decide +kernel
theorem dX6_laid_126 : decode cX6_laid 126 = .ok (.iload_n 1, 1) := by decide +kernel
theorem dX6_laid_127 : decode cX6_laid 127 = .ok (.istore_n 1, 1) := by decide +kernel
theorem dX6_laid_128 : decode cX6_laid 128 = .ok (.iload 7, 2) := by decide +kernel
theorem dX6_laid_130 : decode cX6_laid 130 = .ok (.ifCond .eq 10, 3) := by decide +kernel
theorem dX6_laid_133 : decode cX6_laid 133 = .ok (.aload_n 0, 1) := by decide +kernel
theorem dX6_laid_134 : decode cX6_laid 134 = .ok (.getfield 222, 3) := by decide +kernel
theorem dX6_laid_137 : decode cX6_laid 137 = .ok (.goto 4, 3) := by decide +kernel
theorem dX6_laid_140 : decode cX6_laid 140 = .ok (.iload_n 2, 1) := by decide +kernel
theorem dX6_laid_141 : decode cX6_laid 141 = .ok (.istore_n 2, 1) := by decide +kernel
theorem dX6_laid_142 : decode cX6_laid 142 = .ok (.iinc 5 1, 3) := by decide +kernel
theorem dX6_laid_145 : decode cX6_laid 145 = .ok (.goto (-109), 3) := by decide +kernel
theorem dX6_laid_148 : decode cX6_laid 148 = .ok (.iinc 4 1, 3) := by decide +kernel
theorem dX6_laid_151 : decode cX6_laid 151 = .ok (.goto (-132), 3) := by decide +kernel
theorem dX6_laid_154 : decode cX6_laid 154 = .ok (.iload_n 3, 1) := by decide +kernel
theorem dX6_laid_155 : decode cX6_laid 155 = .ok (.ireturn, 1) := by decide +kernel
theorem dX6_danger_0 : decode cX6_danger 0 = .ok (.aload_n 0, 1) := by decide +kernel
theorem dX6_danger_1 : decode cX6_danger 1 = .ok (.iload_n 1, 1) := by decide +kernel
theorem dX6_danger_2 : decode cX6_danger 2 = .ok (.invokevirtual 186, 3) := by decide +kernel
theorem dX6_danger_5 : decode cX6_danger 5 = .ok (.ifCond .ne 10, 3) := by decide +kernel
theorem dX6_danger_8 : decode cX6_danger 8 = .ok (.aload_n 0, 1) := by decide +kernel
theorem dX6_danger_9 : decode cX6_danger 9 = .ok (.invokevirtual 79, 3) := by decide +kernel
theorem dX6_danger_12 : decode cX6_danger 12 = .ok (.goto 16, 3) := by decide +kernel
theorem dX6_danger_15 : decode cX6_danger 15 = .ok (.aload_n 0, 1) := by decide +kernel
theorem dX6_danger_16 : decode cX6_danger 16 = .ok (.iload_n 1, 1) := by decide +kernel
theorem dX6_danger_17 : decode cX6_danger 17 = .ok (.invokevirtual 189, 3) := by decide +kernel
theorem dX6_danger_20 : decode cX6_danger 20 = .ok (.ifCond .eq 7, 3) := by decide +kernel
theorem dX6_danger_23 : decode cX6_danger 23 = .ok (.iconst 1, 1) := by decide +kernel
theorem dX6_danger_24 : decode cX6_danger 24 = .ok (.goto 4, 3) := by decide +kernel
theorem dX6_danger_27 : decode cX6_danger 27 = .ok (.iconst 0, 1) := by decide +kernel
theorem dX6_danger_28 : decode cX6_danger 28 = .ok (.ireturn, 1) := by decide +kernel
theorem dX6_sight_0 : decode cX6_sight 0 = .ok (.aload_n 0, 1) := by decide +kernel
theorem dX6_sight_1 : decode cX6_sight 1 = .ok (.iload_n 1, 1) := by decide +kernel
theorem dX6_sight_2 : decode cX6_sight 2 = .ok (.invokevirtual 83, 3) := by decide +kernel
theorem dX6_sight_5 : decode cX6_sight 5 = .ok (.ifCond .eq 11, 3) := by decide +kernel
theorem dX6_sight_8 : decode cX6_sight 8 = .ok (.aload_n 0, 1) := by decide +kernel
theorem dX6_sight_9 : decode cX6_sight 9 = .ok (.iload_n 2, 1) := by decide +kernel
theorem dX6_sight_10 : decode cX6_sight 10 = .ok (.invokevirtual 186, 3) := by decide +kernel
theorem dX6_sight_13 : decode cX6_sight 13 = .ok (.ifCond .ne 8, 3) := by decide +kernel
theorem dX6_sight_16 : decode cX6_sight 16 = .ok (.aload_n 0, 1) := by decide +kernel
theorem dX6_sight_17 : decode cX6_sight 17 = .ok (.invokevirtual 79, 3) := by decide +kernel
theorem dX6_sight_20 : decode cX6_sight 20 = .ok (.ireturn, 1) := by decide +kernel
theorem dX6_sight_21 : decode cX6_sight 21 = .ok (.aload_n 0, 1) := by decide +kernel
theorem dX6_sight_22 : decode cX6_sight 22 = .ok (.getfield 7, 3) := by decide +kernel
theorem dX6_sight_25 : decode cX6_sight 25 = .ok (.iconst 3, 1) := by decide +kernel
theorem dX6_sight_26 : decode cX6_sight 26 = .ok (.iaload, 1) := by decide +kernel
theorem dX6_sight_27 : decode cX6_sight 27 = .ok (.bipush 8, 2) := by decide +kernel
theorem dX6_sight_29 : decode cX6_sight 29 = .ok (.if_icmp .ne 8, 3) := by decide +kernel
theorem dX6_sight_32 : decode cX6_sight 32 = .ok (.aload_n 0, 1) := by decide +kernel
theorem dX6_sight_33 : decode cX6_sight 33 = .ok (.invokevirtual 91, 3) := by decide +kernel
theorem dX6_sight_36 : decode cX6_sight 36 = .ok (.ireturn, 1) := by decide +kernel
theorem dX6_sight_37 : decode cX6_sight 37 = .ok (.aload_n 0, 1) := by decide +kernel
theorem dX6_sight_38 : decode cX6_sight 38 = .ok (.getfield 7, 3) := by decide +kernel
theorem dX6_sight_41 : decode cX6_sight 41 = .ok (.bipush 62, 2) := by decide +kernel
theorem dX6_sight_43 : decode cX6_sight 43 = .ok (.iconst 2, 1) := by decide +kernel
theorem dX6_sight_44 : decode cX6_sight 44 = .ok (.aload_n 0, 1) := by decide +kernel
theorem dX6_sight_45 : decode cX6_sight 45 = .ok (.getfield 7, 3) := by decide +kernel
theorem dX6_sight_48 : decode cX6_sight 48 = .ok (.iconst 3, 1) := by decide +kernel
theorem dX6_sight_49 : decode cX6_sight 49 = .ok (.iaload, 1) := by decide +kernel
theorem dX6_sight_50 : decode cX6_sight 50 = .ok (.imul, 1) := by decide +kernel
theorem dX6_sight_51 : decode cX6_sight 51 = .ok (.iadd, 1) := by decide +kernel
theorem dX6_sight_52 : decode cX6_sight 52 = .ok (.iload_n 1, 1) := by decide +kernel
theorem dX6_sight_53 : decode cX6_sight 53 = .ok (.iastore, 1) := by decide +kernel
theorem dX6_sight_54 : decode cX6_sight 54 = .ok (.aload_n 0, 1) := by decide +kernel
theorem dX6_sight_55 : decode cX6_sight 55 = .ok (.getfield 7, 3) := by decide +kernel
theorem dX6_sight_58 : decode cX6_sight 58 = .ok (.bipush 62, 2) := by decide +kernel
theorem dX6_sight_60 : decode cX6_sight 60 = .ok (.iconst 2, 1) := by decide +kernel
theorem dX6_sight_61 : decode cX6_sight 61 = .ok (.aload_n 0, 1) := by decide +kernel
theorem dX6_sight_62 : decode cX6_sight 62 = .ok (.getfield 7, 3) := by decide +kernel
theorem dX6_sight_65 : decode cX6_sight 65 = .ok (.iconst 3, 1) := by decide +kernel
theorem dX6_sight_66 : decode cX6_sight 66 = .ok (.iaload, 1) := by decide +kernel
theorem dX6_sight_67 : decode cX6_sight 67 = .ok (.imul, 1) := by decide +kernel
theorem dX6_sight_68 : decode cX6_sight 68 = .ok (.iadd, 1) := by decide +kernel
theorem dX6_sight_69 : decode cX6_sight 69 = .ok (.iconst 1, 1) := by decide +kernel
theorem dX6_sight_70 : decode cX6_sight 70 = .ok (.iadd, 1) := by decide +kernel
theorem dX6_sight_71 : decode cX6_sight 71 = .ok (.iload_n 2, 1) := by decide +kernel
theorem dX6_sight_72 : decode cX6_sight 72 = .ok (.iastore, 1) := by decide +kernel
theorem dX6_sight_73 : decode cX6_sight 73 = .ok (.aload_n 0, 1) := by decide +kernel
theorem dX6_sight_74 : decode cX6_sight 74 = .ok (.getfield 7, 3) := by decide +kernel
theorem dX6_sight_77 : decode cX6_sight 77 = .ok (.iconst 3, 1) := by decide +kernel
theorem dX6_sight_78 : decode cX6_sight 78 = .ok (.dup2, 1) := by decide +kernel
theorem dX6_sight_79 : decode cX6_sight 79 = .ok (.iaload, 1) := by decide +kernel
theorem dX6_sight_80 : decode cX6_sight 80 = .ok (.iconst 1, 1) := by decide +kernel
theorem dX6_sight_81 : decode cX6_sight 81 = .ok (.iadd, 1) := by decide +kernel
theorem dX6_sight_82 : decode cX6_sight 82 = .ok (.iastore, 1) := by decide +kernel
theorem dX6_sight_83 : decode cX6_sight 83 = .ok (.aload_n 0, 1) := by decide +kernel
theorem dX6_sight_84 : decode cX6_sight 84 = .ok (.getfield 7, 3) := by decide +kernel
theorem dX6_sight_87 : decode cX6_sight 87 = .ok (.iconst 3, 1) := by decide +kernel
theorem dX6_sight_88 : decode cX6_sight 88 = .ok (.iaload, 1) := by decide +kernel
theorem dX6_sight_89 : decode cX6_sight 89 = .ok (.iconst 1, 1) := by decide +kernel
theorem dX6_sight_90 : decode cX6_sight 90 = .ok (.isub, 1) := by decide +kernel
theorem dX6_sight_91 : decode cX6_sight 91 = .ok (.ireturn, 1) := by decide +kernel
theorem dX6_none_0 : decode cX6_none 0 = .ok (.iload_n 1, 1) := by decide +kernel
theorem dX6_none_1 : decode cX6_none 1 = .ok (.i2l, 1) := by decide +kernel
theorem dX6_none_2 : decode cX6_none 2 = .ok (.lconst 0, 1) := by decide +kernel
theorem dX6_none_3 : decode cX6_none 3 = .ok (.lconst 1, 1) := by decide +kernel
theorem dX6_none_4 : decode cX6_none 4 = .ok (.invokestatic 56, 3) := by decide +kernel
theorem dX6_none_7 : decode cX6_none 7 = .ok (.ifCond .ne 8, 3) := by decide +kernel
theorem dX6_none_10 : decode cX6_none 10 = .ok (.aload_n 0, 1) := by decide +kernel
theorem dX6_none_11 : decode cX6_none 11 = .ok (.invokevirtual 79, 3) := by decide +kernel
theorem dX6_none_14 : decode cX6_none 14 = .ok (.ireturn, 1) := by decide +kernel
theorem dX6_none_15 : decode cX6_none 15 = .ok (.aload_n 0, 1) := by decide +kernel
theorem dX6_none_16 : decode cX6_none 16 = .ok (.getfield 7, 3) := by decide +kernel
theorem dX6_none_19 : decode cX6_none 19 = .ok (.iconst 2, 1) := by decide +kernel
theorem dX6_none_20 : decode cX6_none 20 = .ok (.iload_n 1, 1) := by decide +kernel
theorem dX6_none_21 : decode cX6_none 21 = .ok (.iadd, 1) := by decide +kernel
theorem dX6_none_22 : decode cX6_none 22 = .ok (.iaload, 1) := by decide +kernel
theorem dX6_none_23 : decode cX6_none 23 = .ok (.istore_n 2, 1) := by decide +kernel
theorem dX6_none_24 : decode cX6_none 24 = .ok (.aload_n 0, 1) := by decide +kernel
theorem dX6_none_25 : decode cX6_none 25 = .ok (.getfield 7, 3) := by decide +kernel
theorem dX6_none_28 : decode cX6_none 28 = .ok (.iconst 2, 1) := by decide +kernel
theorem dX6_none_29 : decode cX6_none 29 = .ok (.iload_n 1, 1) := by decide +kernel
theorem dX6_none_30 : decode cX6_none 30 = .ok (.iadd, 1) := by decide +kernel
theorem dX6_none_31 : decode cX6_none 31 = .ok (.iconst 0, 1) := by decide +kernel
theorem dX6_none_32 : decode cX6_none 32 = .ok (.iastore, 1) := by decide +kernel
theorem dX6_none_33 : decode cX6_none 33 = .ok (.iload_n 2, 1) := by decide +kernel
theorem dX6_none_34 : decode cX6_none 34 = .ok (.ireturn, 1) := by decide +kernel
theorem dX6_fits_0 : decode cX6_fits 0 = .ok (.iload_n 1, 1) := by decide +kernel
theorem dX6_fits_1 : decode cX6_fits 1 = .ok (.i2l, 1) := by decide +kernel
theorem dX6_fits_2 : decode cX6_fits 2 = .ok (.lconst 0, 1) := by decide +kernel
theorem dX6_fits_3 : decode cX6_fits 3 = .ok (.lconst 1, 1) := by decide +kernel
theorem dX6_fits_4 : decode cX6_fits 4 = .ok (.invokestatic 56, 3) := by decide +kernel
theorem dX6_fits_7 : decode cX6_fits 7 = .ok (.ifCond .ne 8, 3) := by decide +kernel
theorem dX6_fits_10 : decode cX6_fits 10 = .ok (.aload_n 0, 1) := by decide +kernel
theorem dX6_fits_11 : decode cX6_fits 11 = .ok (.invokevirtual 79, 3) := by decide +kernel
theorem dX6_fits_14 : decode cX6_fits 14 = .ok (.ireturn, 1) := by decide +kernel
theorem dX6_fits_15 : decode cX6_fits 15 = .ok (.iconst 0, 1) := by decide +kernel
theorem dX6_fits_16 : decode cX6_fits 16 = .ok (.istore_n 2, 1) := by decide +kernel
theorem dX6_fits_17 : decode cX6_fits 17 = .ok (.iconst (-1), 1) := by decide +kernel
theorem dX6_fits_18 : decode cX6_fits 18 = .ok (.istore_n 3, 1) := by decide +kernel
theorem dX6_fits_19 : decode cX6_fits 19 = .ok (.iconst 0, 1) := by decide +kernel
theorem dX6_fits_20 : decode cX6_fits 20 = .ok (.istore 4, 2) := by decide +kernel
theorem dX6_fits_22 : decode cX6_fits 22 = .ok (.iload 4, 2) := by decide +kernel
theorem dX6_fits_24 : decode cX6_fits 24 = .ok (.aload_n 0, 1) := by decide +kernel
theorem dX6_fits_25 : decode cX6_fits 25 = .ok (.invokevirtual 176, 3) := by decide +kernel
theorem dX6_fits_28 : decode cX6_fits 28 = .ok (.if_icmp .gt 122, 3) := by decide +kernel
theorem dX6_fits_31 : decode cX6_fits 31 = .ok (.iconst 1, 1) := by decide +kernel
theorem dX6_fits_32 : decode cX6_fits 32 = .ok (.istore 5, 2) := by decide +kernel
theorem dX6_fits_34 : decode cX6_fits 34 = .ok (.iconst 0, 1) := by decide +kernel
theorem dX6_fits_35 : decode cX6_fits 35 = .ok (.istore 6, 2) := by decide +kernel
theorem dX6_fits_37 : decode cX6_fits 37 = .ok (.iconst 0, 1) := by decide +kernel
theorem dX6_fits_38 : decode cX6_fits 38 = .ok (.istore 7, 2) := by decide +kernel
theorem dX6_fits_40 : decode cX6_fits 40 = .ok (.iload 7, 2) := by decide +kernel
theorem dX6_fits_42 : decode cX6_fits 42 = .ok (.aload_n 0, 1) := by decide +kernel
theorem dX6_fits_43 : decode cX6_fits 43 = .ok (.getfield 7, 3) := by decide +kernel
theorem dX6_fits_46 : decode cX6_fits 46 = .ok (.iconst 3, 1) := by decide +kernel
theorem dX6_fits_47 : decode cX6_fits 47 = .ok (.iaload, 1) := by decide +kernel
theorem dX6_fits_48 : decode cX6_fits 48 = .ok (.if_icmp .ge 66, 3) := by decide +kernel
theorem dX6_fits_51 : decode cX6_fits 51 = .ok (.iload 5, 2) := by decide +kernel
theorem dX6_fits_53 : decode cX6_fits 53 = .ok (.ifCond .eq 61, 3) := by decide +kernel
theorem dX6_fits_56 : decode cX6_fits 56 = .ok (.aload_n 0, 1) := by decide +kernel
theorem dX6_fits_57 : decode cX6_fits 57 = .ok (.getfield 7, 3) := by decide +kernel
theorem dX6_fits_60 : decode cX6_fits 60 = .ok (.bipush 62, 2) := by decide +kernel
theorem dX6_fits_62 : decode cX6_fits 62 = .ok (.iconst 2, 1) := by decide +kernel
theorem dX6_fits_63 : decode cX6_fits 63 = .ok (.iload 7, 2) := by decide +kernel
theorem dX6_fits_65 : decode cX6_fits 65 = .ok (.imul, 1) := by decide +kernel
theorem dX6_fits_66 : decode cX6_fits 66 = .ok (.iadd, 1) := by decide +kernel
theorem dX6_fits_67 : decode cX6_fits 67 = .ok (.iconst 1, 1) := by decide +kernel
theorem dX6_fits_68 : decode cX6_fits 68 = .ok (.iadd, 1) := by decide +kernel
theorem dX6_fits_69 : decode cX6_fits 69 = .ok (.iaload, 1) := by decide +kernel
theorem dX6_fits_70 : decode cX6_fits 70 = .ok (.istore 8, 2) := by decide +kernel
theorem dX6_fits_72 : decode cX6_fits 72 = .ok (.aload_n 0, 1) := by decide +kernel
theorem dX6_fits_73 : decode cX6_fits 73 = .ok (.iload 6, 2) := by decide +kernel
theorem dX6_fits_75 : decode cX6_fits 75 = .ok (.aload_n 0, 1) := by decide +kernel
theorem dX6_fits_76 : decode cX6_fits 76 = .ok (.getfield 7, 3) := by decide +kernel
theorem dX6_fits_79 : decode cX6_fits 79 = .ok (.bipush 62, 2) := by decide +kernel
theorem dX6_fits_81 : decode cX6_fits 81 = .ok (.iconst 2, 1) := by decide +kernel
theorem dX6_fits_82 : decode cX6_fits 82 = .ok (.iload 7, 2) := by decide +kernel
theorem dX6_fits_84 : decode cX6_fits 84 = .ok (.imul, 1) := by decide +kernel
theorem dX6_fits_85 : decode cX6_fits 85 = .ok (.iadd, 1) := by decide +kernel
theorem dX6_fits_86 : decode cX6_fits 86 = .ok (.iaload, 1) := by decide +kernel
theorem dX6_fits_87 : decode cX6_fits 87 = .ok (.iload 4, 2) := by decide +kernel
theorem dX6_fits_89 : decode cX6_fits 89 = .ok (.invokevirtual 179, 3) := by decide +kernel
theorem dX6_fits_92 : decode cX6_fits 92 = .ok (.iload 8, 2) := by decide +kernel
theorem dX6_fits_94 : decode cX6_fits 94 = .ok (.if_icmp .ne 7, 3) := by decide +kernel
theorem dX6_fits_97 : decode cX6_fits 97 = .ok (.iconst 1, 1) := by decide +kernel
theorem dX6_fits_98 : decode cX6_fits 98 = .ok (.goto 4, 3) := by decide +kernel
theorem dX6_fits_101 : decode cX6_fits 101 = .ok (.iconst 0, 1) := by decide +kernel
theorem dX6_fits_102 : decode cX6_fits 102 = .ok (.istore 5, 2) := by decide +kernel
theorem dX6_fits_104 : decode cX6_fits 104 = .ok (.iload 8, 2) := by decide +kernel
theorem dX6_fits_106 : decode cX6_fits 106 = .ok (.istore 6, 2) := by decide +kernel
theorem dX6_fits_108 : decode cX6_fits 108 = .ok (.iinc 7 1, 3) := by decide +kernel
theorem dX6_fits_111 : decode cX6_fits 111 = .ok (.goto (-71), 3) := by decide +kernel
theorem dX6_fits_114 : decode cX6_fits 114 = .ok (.iload_n 2, 1) := by decide +kernel
theorem dX6_fits_115 : decode cX6_fits 115 = .ok (.iload 5, 2) := by decide +kernel
theorem dX6_fits_117 : decode cX6_fits 117 = .ok (.ifCond .eq 7, 3) := by decide +kernel
theorem dX6_fits_120 : decode cX6_fits 120 = .ok (.iconst 1, 1) := by decide +kernel
theorem dX6_fits_121 : decode cX6_fits 121 = .ok (.goto 4, 3) := by decide +kernel
theorem dX6_fits_124 : decode cX6_fits 124 = .ok (.iconst 0, 1) := by decide +kernel
theorem dX6_fits_125 : decode cX6_fits 125 = .ok (.iadd, 1) := by decide +kernel
theorem dX6_fits_126 : decode cX6_fits 126 = .ok (.istore_n 2, 1) := by decide +kernel
theorem dX6_fits_127 : decode cX6_fits 127 = .ok (.iload 5, 2) := by decide +kernel
theorem dX6_fits_129 : decode cX6_fits 129 = .ok (.ifCond .eq 13, 3) := by decide +kernel
theorem dX6_fits_132 : decode cX6_fits 132 = .ok (.iload_n 3, 1) := by decide +kernel
theorem dX6_fits_133 : decode cX6_fits 133 = .ok (.iconst (-1), 1) := by decide +kernel
theorem dX6_fits_134 : decode cX6_fits 134 = .ok (.if_icmp .ne 8, 3) := by decide +kernel
theorem dX6_fits_137 : decode cX6_fits 137 = .ok (.iload 4, 2) := by decide +kernel
theorem dX6_fits_139 : decode cX6_fits 139 = .ok (.goto 4, 3) := by decide +kernel
theorem dX6_fits_142 : decode cX6_fits 142 = .ok (.iload_n 3, 1) := by decide +kernel
theorem dX6_fits_143 : decode cX6_fits 143 = .ok (.istore_n 3, 1) := by decide +kernel
theorem dX6_fits_144 : decode cX6_fits 144 = .ok (.iinc 4 1, 3) := by decide +kernel
theorem dX6_fits_147 : decode cX6_fits 147 = .ok (.goto (-125), 3) := by decide +kernel
theorem dX6_fits_150 : decode cX6_fits 150 = .ok (.iload_n 1, 1) := by decide +kernel
theorem dX6_fits_151 : decode cX6_fits 151 = .ok (.ifCond .ne 7, 3) := by decide +kernel
theorem dX6_fits_154 : decode cX6_fits 154 = .ok (.iload_n 2, 1) := by decide +kernel
theorem dX6_fits_155 : decode cX6_fits 155 = .ok (.goto 16, 3) := by decide +kernel
theorem dX6_fits_158 : decode cX6_fits 158 = .ok (.iload_n 3, 1) := by decide +kernel
theorem dX6_fits_159 : decode cX6_fits 159 = .ok (.iconst (-1), 1) := by decide +kernel
theorem dX6_fits_160 : decode cX6_fits 160 = .ok (.if_icmp .ne 10, 3) := by decide +kernel
theorem dX6_fits_163 : decode cX6_fits 163 = .ok (.aload_n 0, 1) := by decide +kernel
theorem dX6_fits_164 : decode cX6_fits 164 = .ok (.invokevirtual 98, 3) := by decide +kernel
theorem dX6_fits_167 : decode cX6_fits 167 = .ok (.goto 4, 3) := by decide +kernel
theorem dX6_fits_170 : decode cX6_fits 170 = .ok (.iload_n 3, 1) := by decide +kernel
theorem dX6_fits_171 : decode cX6_fits 171 = .ok (.ireturn, 1) := by decide +kernel
theorem dX6_image_0 : decode cX6_image 0 = .ok (.iload_n 1, 1) := by decide +kernel
theorem dX6_image_1 : decode cX6_image 1 = .ok (.i2l, 1) := by decide +kernel
theorem dX6_image_2 : decode cX6_image 2 = .ok (.lconst 0, 1) := by decide +kernel
theorem dX6_image_3 : decode cX6_image 3 = .ok (.lconst 1, 1) := by decide +kernel
theorem dX6_image_4 : decode cX6_image 4 = .ok (.invokestatic 56, 3) := by decide +kernel
theorem dX6_image_7 : decode cX6_image 7 = .ok (.ifCond .ne 8, 3) := by decide +kernel
theorem dX6_image_10 : decode cX6_image 10 = .ok (.aload_n 0, 1) := by decide +kernel
theorem dX6_image_11 : decode cX6_image 11 = .ok (.invokevirtual 79, 3) := by decide +kernel
theorem dX6_image_14 : decode cX6_image 14 = .ok (.ireturn, 1) := by decide +kernel
theorem dX6_image_15 : decode cX6_image 15 = .ok (.iconst 0, 1) := by decide +kernel
theorem dX6_image_16 : decode cX6_image 16 = .ok (.istore_n 2, 1) := by decide +kernel
theorem dX6_image_17 : decode cX6_image 17 = .ok (.iload_n 2, 1) := by decide +kernel
theorem dX6_image_18 : decode cX6_image 18 = .ok (.bipush 98, 2) := by decide +kernel
theorem dX6_image_20 : decode cX6_image 20 = .ok (.if_icmp .ge 26, 3) := by decide +kernel
theorem dX6_image_23 : decode cX6_image 23 = .ok (.aload_n 0, 1) := by decide +kernel
theorem dX6_image_24 : decode cX6_image 24 = .ok (.getfield 13, 3) := by decide +kernel
theorem dX6_image_27 : decode cX6_image 27 = .ok (.bipush 98, 2) := by decide +kernel
theorem dX6_image_29 : decode cX6_image 29 = .ok (.iload_n 1, 1) := by decide +kernel
theorem dX6_image_30 : decode cX6_image 30 = .ok (.imul, 1) := by decide +kernel
theorem dX6_image_31 : decode cX6_image 31 = .ok (.iload_n 2, 1) := by decide +kernel
theorem dX6_image_32 : decode cX6_image 32 = .ok (.iadd, 1) := by decide +kernel
theorem dX6_image_33 : decode cX6_image 33 = .ok (.aload_n 0, 1) := by decide +kernel
theorem dX6_image_34 : decode cX6_image 34 = .ok (.getfield 7, 3) := by decide +kernel
theorem dX6_image_37 : decode cX6_image 37 = .ok (.iload_n 2, 1) := by decide +kernel
theorem dX6_image_38 : decode cX6_image 38 = .ok (.iaload, 1) := by decide +kernel
theorem dX6_image_39 : decode cX6_image 39 = .ok (.iastore, 1) := by decide +kernel
theorem dX6_image_40 : decode cX6_image 40 = .ok (.iinc 2 1, 3) := by decide +kernel
theorem dX6_image_43 : decode cX6_image 43 = .ok (.goto (-26), 3) := by decide +kernel
theorem dX6_image_46 : decode cX6_image 46 = .ok (.aload_n 0, 1) := by decide +kernel
theorem dX6_image_47 : decode cX6_image 47 = .ok (.getfield 16, 3) := by decide +kernel
theorem dX6_image_50 : decode cX6_image 50 = .ok (.iload_n 1, 1) := by decide +kernel
theorem dX6_image_51 : decode cX6_image 51 = .ok (.iconst 1, 1) := by decide +kernel
theorem dX6_image_52 : decode cX6_image 52 = .ok (.bastore, 1) := by decide +kernel
theorem dX6_image_53 : decode cX6_image 53 = .ok (.iconst 1, 1) := by decide +kernel
theorem dX6_image_54 : decode cX6_image 54 = .ok (.ireturn, 1) := by decide +kernel
theorem dX6_from_0 : decode cX6_from 0 = .ok (.iload_n 1, 1) := by decide +kernel
theorem dX6_from_1 : decode cX6_from 1 = .ok (.i2l, 1) := by decide +kernel
theorem dX6_from_2 : decode cX6_from 2 = .ok (.lconst 0, 1) := by decide +kernel
theorem dX6_from_3 : decode cX6_from 3 = .ok (.lconst 1, 1) := by decide +kernel
theorem dX6_from_4 : decode cX6_from 4 = .ok (.invokestatic 56, 3) := by decide +kernel
theorem dX6_from_7 : decode cX6_from 7 = .ok (.ifCond .ne 8, 3) := by decide +kernel
theorem dX6_from_10 : decode cX6_from 10 = .ok (.aload_n 0, 1) := by decide +kernel
theorem dX6_from_11 : decode cX6_from 11 = .ok (.invokevirtual 79, 3) := by decide +kernel
theorem dX6_from_14 : decode cX6_from 14 = .ok (.ireturn, 1) := by decide +kernel
theorem dX6_from_15 : decode cX6_from 15 = .ok (.aload_n 0, 1) := by decide +kernel
theorem dX6_from_16 : decode cX6_from 16 = .ok (.getfield 16, 3) := by decide +kernel
theorem dX6_from_19 : decode cX6_from 19 = .ok (.iload_n 1, 1) := by decide +kernel
theorem dX6_from_20 : decode cX6_from 20 = .ok (.baload, 1) := by decide +kernel
theorem dX6_from_21 : decode cX6_from 21 = .ok (.ifCond .ne 8, 3) := by decide +kernel
theorem dX6_from_24 : decode cX6_from 24 = .ok (.aload_n 0, 1) := by decide +kernel
theorem dX6_from_25 : decode cX6_from 25 = .ok (.invokevirtual 98, 3) := by decide +kernel
theorem dX6_from_28 : decode cX6_from 28 = .ok (.ireturn, 1) := by decide +kernel
theorem dX6_from_29 : decode cX6_from 29 = .ok (.iconst 0, 1) := by decide +kernel
theorem dX6_from_30 : decode cX6_from 30 = .ok (.istore_n 2, 1) := by decide +kernel
theorem dX6_from_31 : decode cX6_from 31 = .ok (.iload_n 2, 1) := by decide +kernel
theorem dX6_from_32 : decode cX6_from 32 = .ok (.bipush 98, 2) := by decide +kernel
theorem dX6_from_34 : decode cX6_from 34 = .ok (.if_icmp .ge 26, 3) := by decide +kernel
theorem dX6_from_37 : decode cX6_from 37 = .ok (.aload_n 0, 1) := by decide +kernel
theorem dX6_from_38 : decode cX6_from 38 = .ok (.getfield 7, 3) := by decide +kernel
theorem dX6_from_41 : decode cX6_from 41 = .ok (.iload_n 2, 1) := by decide +kernel
theorem dX6_from_42 : decode cX6_from 42 = .ok (.aload_n 0, 1) := by decide +kernel
theorem dX6_from_43 : decode cX6_from 43 = .ok (.getfield 13, 3) := by decide +kernel
theorem dX6_from_46 : decode cX6_from 46 = .ok (.bipush 98, 2) := by decide +kernel
theorem dX6_from_48 : decode cX6_from 48 = .ok (.iload_n 1, 1) := by decide +kernel
theorem dX6_from_49 : decode cX6_from 49 = .ok (.imul, 1) := by decide +kernel
theorem dX6_from_50 : decode cX6_from 50 = .ok (.iload_n 2, 1) := by decide +kernel
theorem dX6_from_51 : decode cX6_from 51 = .ok (.iadd, 1) := by decide +kernel
theorem dX6_from_52 : decode cX6_from 52 = .ok (.iaload, 1) := by decide +kernel
theorem dX6_from_53 : decode cX6_from 53 = .ok (.iastore, 1) := by decide +kernel
theorem dX6_from_54 : decode cX6_from 54 = .ok (.iinc 2 1, 3) := by decide +kernel
theorem dX6_from_57 : decode cX6_from 57 = .ok (.goto (-26), 3) := by decide +kernel
theorem dX6_from_60 : decode cX6_from 60 = .ok (.iconst 1, 1) := by decide +kernel
theorem dX6_from_61 : decode cX6_from 61 = .ok (.ireturn, 1) := by decide +kernel
theorem dX6_status_0 : decode cX6_status 0 = .ok (.iload_n 1, 1) := by decide +kernel
theorem dX6_status_1 : decode cX6_status 1 = .ok (.i2l, 1) := by decide +kernel
theorem dX6_status_2 : decode cX6_status 2 = .ok (.lconst 0, 1) := by decide +kernel
theorem dX6_status_3 : decode cX6_status 3 = .ok (.ldc2_w 75, 3) := by decide +kernel
theorem dX6_status_6 : decode cX6_status 6 = .ok (.invokestatic 56, 3) := by decide +kernel
theorem dX6_status_9 : decode cX6_status 9 = .ok (.ifCond .eq 12, 3) := by decide +kernel
theorem dX6_status_12 : decode cX6_status 12 = .ok (.aload_n 0, 1) := by decide +kernel
theorem dX6_status_13 : decode cX6_status 13 = .ok (.getfield 23, 3) := by decide +kernel
theorem dX6_status_16 : decode cX6_status 16 = .ok (.iload_n 1, 1) := by decide +kernel
theorem dX6_status_17 : decode cX6_status 17 = .ok (.iaload, 1) := by decide +kernel
theorem dX6_status_18 : decode cX6_status 18 = .ok (.goto 9, 3) := by decide +kernel
theorem dX6_status_21 : decode cX6_status 21 = .ok (.aload_n 0, 1) := by decide +kernel
theorem dX6_status_22 : decode cX6_status 22 = .ok (.iconst 0, 1) := by decide +kernel
theorem dX6_status_23 : decode cX6_status 23 = .ok (.iconst (-1), 1) := by decide +kernel
theorem dX6_status_24 : decode cX6_status 24 = .ok (.invokevirtual 52, 3) := by decide +kernel
theorem dX6_status_27 : decode cX6_status 27 = .ok (.ireturn, 1) := by decide +kernel
theorem dX6_countOf_0 : decode cX6_countOf 0 = .ok (.iload_n 1, 1) := by decide +kernel
theorem dX6_countOf_1 : decode cX6_countOf 1 = .ok (.iconst 4, 1) := by decide +kernel
theorem dX6_countOf_2 : decode cX6_countOf 2 = .ok (.if_icmp .ge 12, 3) := by decide +kernel
theorem dX6_countOf_5 : decode cX6_countOf 5 = .ok (.aload_n 0, 1) := by decide +kernel
theorem dX6_countOf_6 : decode cX6_countOf 6 = .ok (.getfield 7, 3) := by decide +kernel
theorem dX6_countOf_9 : decode cX6_countOf 9 = .ok (.iload_n 1, 1) := by decide +kernel
theorem dX6_countOf_10 : decode cX6_countOf 10 = .ok (.iaload, 1) := by decide +kernel
theorem dX6_countOf_11 : decode cX6_countOf 11 = .ok (.goto 37, 3) := by decide +kernel
theorem dX6_countOf_14 : decode cX6_countOf 14 = .ok (.iload_n 1, 1) := by decide +kernel
theorem dX6_countOf_15 : decode cX6_countOf 15 = .ok (.iconst 4, 1) := by decide +kernel
theorem dX6_countOf_16 : decode cX6_countOf 16 = .ok (.if_icmp .ne 10, 3) := by decide +kernel
theorem dX6_countOf_19 : decode cX6_countOf 19 = .ok (.aload_n 0, 1) := by decide +kernel
theorem dX6_countOf_20 : decode cX6_countOf 20 = .ok (.getfield 107, 3) := by decide +kernel
theorem dX6_countOf_23 : decode cX6_countOf 23 = .ok (.goto 25, 3) := by decide +kernel
theorem dX6_countOf_26 : decode cX6_countOf 26 = .ok (.iload_n 1, 1) := by decide +kernel
theorem dX6_countOf_27 : decode cX6_countOf 27 = .ok (.iconst 5, 1) := by decide +kernel
theorem dX6_countOf_28 : decode cX6_countOf 28 = .ok (.if_icmp .ne 13, 3) := by decide +kernel
theorem dX6_countOf_31 : decode cX6_countOf 31 = .ok (.aload_n 0, 1) := by decide +kernel
theorem dX6_countOf_32 : decode cX6_countOf 32 = .ok (.getfield 7, 3) := by decide +kernel
theorem dX6_countOf_35 : decode cX6_countOf 35 = .ok (.bipush 8, 2) := by decide +kernel
theorem dX6_countOf_37 : decode cX6_countOf 37 = .ok (.iaload, 1) := by decide +kernel
theorem dX6_countOf_38 : decode cX6_countOf 38 = .ok (.goto 10, 3) := by decide +kernel
theorem dX6_countOf_41 : decode cX6_countOf 41 = .ok (.aload_n 0, 1) := by decide +kernel
theorem dX6_countOf_42 : decode cX6_countOf 42 = .ok (.getfield 7, 3) := by decide +kernel
theorem dX6_countOf_45 : decode cX6_countOf 45 = .ok (.bipush 7, 2) := by decide +kernel
theorem dX6_countOf_47 : decode cX6_countOf 47 = .ok (.iaload, 1) := by decide +kernel
theorem dX6_countOf_48 : decode cX6_countOf 48 = .ok (.ireturn, 1) := by decide +kernel
theorem dX6_count_0 : decode cX6_count 0 = .ok (.iload_n 1, 1) := by decide +kernel
theorem dX6_count_1 : decode cX6_count 1 = .ok (.i2l, 1) := by decide +kernel
theorem dX6_count_2 : decode cX6_count 2 = .ok (.lconst 0, 1) := by decide +kernel
theorem dX6_count_3 : decode cX6_count 3 = .ok (.ldc2_w 101, 3) := by decide +kernel
theorem dX6_count_6 : decode cX6_count 6 = .ok (.invokestatic 56, 3) := by decide +kernel
theorem dX6_count_9 : decode cX6_count 9 = .ok (.ifCond .eq 11, 3) := by decide +kernel
theorem dX6_count_12 : decode cX6_count 12 = .ok (.aload_n 0, 1) := by decide +kernel
theorem dX6_count_13 : decode cX6_count 13 = .ok (.iload_n 1, 1) := by decide +kernel
theorem dX6_count_14 : decode cX6_count 14 = .ok (.invokevirtual 232, 3) := by decide +kernel
theorem dX6_count_17 : decode cX6_count 17 = .ok (.goto 7, 3) := by decide +kernel
theorem dX6_count_20 : decode cX6_count 20 = .ok (.aload_n 0, 1) := by decide +kernel
theorem dX6_count_21 : decode cX6_count 21 = .ok (.invokevirtual 79, 3) := by decide +kernel
theorem dX6_count_24 : decode cX6_count 24 = .ok (.ireturn, 1) := by decide +kernel
theorem dX6_mixed_0 : decode cX6_mixed 0 = .ok (.lload_n 1, 1) := by decide +kernel
theorem dX6_mixed_1 : decode cX6_mixed 1 = .ok (.lstore 5, 2) := by decide +kernel
theorem dX6_mixed_3 : decode cX6_mixed 3 = .ok (.iconst 0, 1) := by decide +kernel
theorem dX6_mixed_4 : decode cX6_mixed 4 = .ok (.istore 7, 2) := by decide +kernel
theorem dX6_mixed_6 : decode cX6_mixed 6 = .ok (.iload 7, 2) := by decide +kernel
theorem dX6_mixed_8 : decode cX6_mixed 8 = .ok (.iload 4, 2) := by decide +kernel
theorem dX6_mixed_10 : decode cX6_mixed 10 = .ok (.if_icmp .ge 28, 3) := by decide +kernel
theorem dX6_mixed_13 : decode cX6_mixed 13 = .ok (.ldc2_w 235, 3) := by decide +kernel
theorem dX6_mixed_16 : decode cX6_mixed 16 = .ok (.lload 5, 2) := by decide +kernel
theorem dX6_mixed_18 : decode cX6_mixed 18 = .ok (.lmul, 1) := by decide +kernel
theorem dX6_mixed_19 : decode cX6_mixed 19 = .ok (.aload_n 0, 1) := by decide +kernel
theorem dX6_mixed_20 : decode cX6_mixed 20 = .ok (.getfield 7, 3) := by decide +kernel
theorem dX6_mixed_23 : decode cX6_mixed 23 = .ok (.iload_n 3, 1) := by decide +kernel
theorem dX6_mixed_24 : decode cX6_mixed 24 = .ok (.iload 7, 2) := by decide +kernel
theorem dX6_mixed_26 : decode cX6_mixed 26 = .ok (.iadd, 1) := by decide +kernel
theorem dX6_mixed_27 : decode cX6_mixed 27 = .ok (.iaload, 1) := by decide +kernel
theorem dX6_mixed_28 : decode cX6_mixed 28 = .ok (.i2l, 1) := by decide +kernel
theorem dX6_mixed_29 : decode cX6_mixed 29 = .ok (.ladd, 1) := by decide +kernel
theorem dX6_mixed_30 : decode cX6_mixed 30 = .ok (.lstore 5, 2) := by decide +kernel
theorem dX6_mixed_32 : decode cX6_mixed 32 = .ok (.iinc 7 1, 3) := by decide +kernel
theorem dX6_mixed_35 : decode cX6_mixed 35 = .ok (.goto (-29), 3) := by decide +kernel
theorem dX6_mixed_38 : decode cX6_mixed 38 = .ok (.lload 5, 2) := by decide +kernel
theorem dX6_mixed_40 : decode cX6_mixed 40 = .ok (.lreturn, 1) := by decide +kernel
theorem dX6_digest_0 : decode cX6_digest 0 = .ok (.ldc2_w 237, 3) := by decide +kernel
theorem dX6_digest_3 : decode cX6_digest 3 = .ok (.lstore_n 1, 1) := by decide +kernel
theorem dX6_digest_4 : decode cX6_digest 4 = .ok (.iconst 0, 1) := by decide +kernel
theorem dX6_digest_5 : decode cX6_digest 5 = .ok (.istore_n 3, 1) := by decide +kernel
theorem dX6_digest_6 : decode cX6_digest 6 = .ok (.iload_n 3, 1) := by decide +kernel
theorem dX6_digest_7 : decode cX6_digest 7 = .ok (.bipush 7, 2) := by decide +kernel
theorem dX6_digest_9 : decode cX6_digest 9 = .ok (.if_icmp .ge 22, 3) := by decide +kernel
theorem dX6_digest_12 : decode cX6_digest 12 = .ok (.ldc2_w 235, 3) := by decide +kernel
theorem dX6_digest_15 : decode cX6_digest 15 = .ok (.lload_n 1, 1) := by decide +kernel
theorem dX6_digest_16 : decode cX6_digest 16 = .ok (.lmul, 1) := by decide +kernel
theorem dX6_digest_17 : decode cX6_digest 17 = .ok (.aload_n 0, 1) := by decide +kernel
theorem dX6_digest_18 : decode cX6_digest 18 = .ok (.iload_n 3, 1) := by decide +kernel
theorem dX6_digest_19 : decode cX6_digest 19 = .ok (.invokevirtual 232, 3) := by decide +kernel
theorem dX6_digest_22 : decode cX6_digest 22 = .ok (.i2l, 1) := by decide +kernel
theorem dX6_digest_23 : decode cX6_digest 23 = .ok (.ladd, 1) := by decide +kernel
theorem dX6_digest_24 : decode cX6_digest 24 = .ok (.lstore_n 1, 1) := by decide +kernel
theorem dX6_digest_25 : decode cX6_digest 25 = .ok (.iinc 3 1, 3) := by decide +kernel
theorem dX6_digest_28 : decode cX6_digest 28 = .ok (.goto (-22), 3) := by decide +kernel
theorem dX6_digest_31 : decode cX6_digest 31 = .ok (.iconst 0, 1) := by decide +kernel
theorem dX6_digest_32 : decode cX6_digest 32 = .ok (.istore_n 3, 1) := by decide +kernel
theorem dX6_digest_33 : decode cX6_digest 33 = .ok (.iload_n 3, 1) := by decide +kernel
theorem dX6_digest_34 : decode cX6_digest 34 = .ok (.aload_n 0, 1) := by decide +kernel
theorem dX6_digest_35 : decode cX6_digest 35 = .ok (.getfield 7, 3) := by decide +kernel
theorem dX6_digest_38 : decode cX6_digest 38 = .ok (.iconst 0, 1) := by decide +kernel
theorem dX6_digest_39 : decode cX6_digest 39 = .ok (.iaload, 1) := by decide +kernel
theorem dX6_digest_40 : decode cX6_digest 40 = .ok (.if_icmp .ge 42, 3) := by decide +kernel
theorem dX6_digest_43 : decode cX6_digest 43 = .ok (.ldc2_w 235, 3) := by decide +kernel
theorem dX6_digest_46 : decode cX6_digest 46 = .ok (.ldc2_w 235, 3) := by decide +kernel
theorem dX6_digest_49 : decode cX6_digest 49 = .ok (.lload_n 1, 1) := by decide +kernel
theorem dX6_digest_50 : decode cX6_digest 50 = .ok (.lmul, 1) := by decide +kernel
theorem dX6_digest_51 : decode cX6_digest 51 = .ok (.aload_n 0, 1) := by decide +kernel
theorem dX6_digest_52 : decode cX6_digest 52 = .ok (.getfield 7, 3) := by decide +kernel
theorem dX6_digest_55 : decode cX6_digest 55 = .ok (.iconst 4, 1) := by decide +kernel
theorem dX6_digest_56 : decode cX6_digest 56 = .ok (.iaload, 1) := by decide +kernel
theorem dX6_digest_57 : decode cX6_digest 57 = .ok (.iload_n 3, 1) := by decide +kernel
theorem dX6_digest_58 : decode cX6_digest 58 = .ok (.ishr, 1) := by decide +kernel
theorem dX6_digest_59 : decode cX6_digest 59 = .ok (.iconst 1, 1) := by decide +kernel
theorem dX6_digest_60 : decode cX6_digest 60 = .ok (.iand, 1) := by decide +kernel
theorem dX6_digest_61 : decode cX6_digest 61 = .ok (.i2l, 1) := by decide +kernel
theorem dX6_digest_62 : decode cX6_digest 62 = .ok (.ladd, 1) := by decide +kernel
theorem dX6_digest_63 : decode cX6_digest 63 = .ok (.lmul, 1) := by decide +kernel
theorem dX6_digest_64 : decode cX6_digest 64 = .ok (.aload_n 0, 1) := by decide +kernel
theorem dX6_digest_65 : decode cX6_digest 65 = .ok (.getfield 7, 3) := by decide +kernel
theorem dX6_digest_68 : decode cX6_digest 68 = .ok (.bipush 9, 2) := by decide +kernel
theorem dX6_digest_70 : decode cX6_digest 70 = .ok (.iload_n 3, 1) := by decide +kernel
theorem dX6_digest_71 : decode cX6_digest 71 = .ok (.iadd, 1) := by decide +kernel
theorem dX6_digest_72 : decode cX6_digest 72 = .ok (.iaload, 1) := by decide +kernel
theorem dX6_digest_73 : decode cX6_digest 73 = .ok (.i2l, 1) := by decide +kernel
theorem dX6_digest_74 : decode cX6_digest 74 = .ok (.ladd, 1) := by decide +kernel
theorem dX6_digest_75 : decode cX6_digest 75 = .ok (.lstore_n 1, 1) := by decide +kernel
theorem dX6_digest_76 : decode cX6_digest 76 = .ok (.iinc 3 1, 3) := by decide +kernel
theorem dX6_digest_79 : decode cX6_digest 79 = .ok (.goto (-46), 3) := by decide +kernel
theorem dX6_digest_82 : decode cX6_digest 82 = .ok (.aload_n 0, 1) := by decide +kernel
theorem dX6_digest_83 : decode cX6_digest 83 = .ok (.lload_n 1, 1) := by decide +kernel
theorem dX6_digest_84 : decode cX6_digest 84 = .ok (.bipush 16, 2) := by decide +kernel
theorem dX6_digest_86 : decode cX6_digest 86 = .ok (.iconst 4, 1) := by decide +kernel
theorem dX6_digest_87 : decode cX6_digest 87 = .ok (.aload_n 0, 1) := by decide +kernel
theorem dX6_digest_88 : decode cX6_digest 88 = .ok (.getfield 7, 3) := by decide +kernel
theorem dX6_digest_91 : decode cX6_digest 91 = .ok (.iconst 1, 1) := by decide +kernel
theorem dX6_digest_92 : decode cX6_digest 92 = .ok (.iaload, 1) := by decide +kernel
theorem dX6_digest_93 : decode cX6_digest 93 = .ok (.imul, 1) := by decide +kernel
theorem dX6_digest_94 : decode cX6_digest 94 = .ok (.invokevirtual 239, 3) := by decide +kernel
theorem dX6_digest_97 : decode cX6_digest 97 = .ok (.lstore_n 1, 1) := by decide +kernel
theorem dX6_digest_98 : decode cX6_digest 98 = .ok (.aload_n 0, 1) := by decide +kernel
theorem dX6_digest_99 : decode cX6_digest 99 = .ok (.lload_n 1, 1) := by decide +kernel
theorem dX6_digest_100 : decode cX6_digest 100 = .ok (.iconst 5, 1) := by decide +kernel
theorem dX6_digest_101 : decode cX6_digest 101 = .ok (.iconst 2, 1) := by decide +kernel
theorem dX6_digest_102 : decode cX6_digest 102 = .ok (.invokevirtual 239, 3) := by decide +kernel
theorem dX6_digest_105 : decode cX6_digest 105 = .ok (.lstore_n 1, 1) := by decide +kernel
theorem dX6_digest_106 : decode cX6_digest 106 = .ok (.aload_n 0, 1) := by decide +kernel
theorem dX6_digest_107 : decode cX6_digest 107 = .ok (.lload_n 1, 1) := by decide +kernel
theorem dX6_digest_108 : decode cX6_digest 108 = .ok (.bipush 56, 2) := by decide +kernel
theorem dX6_digest_110 : decode cX6_digest 110 = .ok (.aload_n 0, 1) := by decide +kernel
theorem dX6_digest_111 : decode cX6_digest 111 = .ok (.getfield 7, 3) := by decide +kernel
theorem dX6_digest_114 : decode cX6_digest 114 = .ok (.iconst 2, 1) := by decide +kernel
theorem dX6_digest_115 : decode cX6_digest 115 = .ok (.iaload, 1) := by decide +kernel
theorem dX6_digest_116 : decode cX6_digest 116 = .ok (.invokevirtual 239, 3) := by decide +kernel
theorem dX6_digest_119 : decode cX6_digest 119 = .ok (.lstore_n 1, 1) := by decide +kernel
theorem dX6_digest_120 : decode cX6_digest 120 = .ok (.aload_n 0, 1) := by decide +kernel
theorem dX6_digest_121 : decode cX6_digest 121 = .ok (.lload_n 1, 1) := by decide +kernel
theorem dX6_digest_122 : decode cX6_digest 122 = .ok (.bipush 62, 2) := by decide +kernel
theorem dX6_digest_124 : decode cX6_digest 124 = .ok (.iconst 2, 1) := by decide +kernel
theorem dX6_digest_125 : decode cX6_digest 125 = .ok (.aload_n 0, 1) := by decide +kernel
theorem dX6_digest_126 : decode cX6_digest 126 = .ok (.getfield 7, 3) := by decide +kernel
theorem dX6_digest_129 : decode cX6_digest 129 = .ok (.iconst 3, 1) := by decide +kernel
theorem dX6_digest_130 : decode cX6_digest 130 = .ok (.iaload, 1) := by decide +kernel
theorem dX6_digest_131 : decode cX6_digest 131 = .ok (.imul, 1) := by decide +kernel
theorem dX6_digest_132 : decode cX6_digest 132 = .ok (.invokevirtual 239, 3) := by decide +kernel
theorem dX6_digest_135 : decode cX6_digest 135 = .ok (.lreturn, 1) := by decide +kernel
end
section
theorem dL_law_0 : decode cL_law 0 = .ok (.new 7, 3) := by decide +kernel
theorem dL_law_3 : decode cL_law 3 = .ok (.dup, 1) := by decide +kernel
theorem dL_law_4 : decode cL_law 4 = .ok (.invokespecial 9, 3) := by decide +kernel
theorem dL_law_7 : decode cL_law 7 = .ok (.astore_n 1, 1) := by decide +kernel
theorem dL_law_8 : decode cL_law 8 = .ok (.new 10, 3) := by decide +kernel
theorem dL_law_11 : decode cL_law 11 = .ok (.dup, 1) := by decide +kernel
theorem dL_law_12 : decode cL_law 12 = .ok (.invokespecial 12, 3) := by decide +kernel
theorem dL_law_15 : decode cL_law 15 = .ok (.astore_n 2, 1) := by decide +kernel
theorem dL_law_16 : decode cL_law 16 = .ok (.iconst 0, 1) := by decide +kernel
theorem dL_law_17 : decode cL_law 17 = .ok (.istore_n 3, 1) := by decide +kernel
theorem dL_law_18 : decode cL_law 18 = .ok (.iload_n 3, 1) := by decide +kernel
theorem dL_law_19 : decode cL_law 19 = .ok (.aload_n 0, 1) := by decide +kernel
theorem dL_law_20 : decode cL_law 20 = .ok (.arraylength, 1) := by decide +kernel
theorem dL_law_21 : decode cL_law 21 = .ok (.iconst 5, 1) := by decide +kernel
theorem dL_law_22 : decode cL_law 22 = .ok (.isub, 1) := by decide +kernel
theorem dL_law_23 : decode cL_law 23 = .ok (.if_icmp .gt 938, 3) := by decide +kernel
theorem dL_law_26 : decode cL_law 26 = .ok (.aload_n 0, 1) := by decide +kernel
theorem dL_law_27 : decode cL_law 27 = .ok (.iload_n 3, 1) := by decide +kernel
theorem dL_law_28 : decode cL_law 28 = .ok (.iaload, 1) := by decide +kernel
theorem dL_law_29 : decode cL_law 29 = .ok (.bipush 31, 2) := by decide +kernel
theorem dL_law_31 : decode cL_law 31 = .ok (.iand, 1) := by decide +kernel
theorem dL_law_32 : decode cL_law 32 = .ok (.tableswitch 923 0 29 #[136, 159, 212, 261, 294, 327, 350, 413, 426, 439, 462, 475, 508, 531, 574, 617, 640, 653, 666, 679, 702, 715, 738, 771, 794, 817, 840, 863, 886, 909], 136) := by decide +kernel
theorem dL_law_168 : decode cL_law 168 = .ok (.aload_n 1, 1) := by decide +kernel
theorem dL_law_169 : decode cL_law 169 = .ok (.aload_n 0, 1) := by decide +kernel
theorem dL_law_170 : decode cL_law 170 = .ok (.iload_n 3, 1) := by decide +kernel
theorem dL_law_171 : decode cL_law 171 = .ok (.iconst 1, 1) := by decide +kernel
theorem dL_law_172 : decode cL_law 172 = .ok (.iadd, 1) := by decide +kernel
theorem dL_law_173 : decode cL_law 173 = .ok (.iaload, 1) := by decide +kernel
theorem dL_law_174 : decode cL_law 174 = .ok (.invokevirtual 13, 3) := by decide +kernel
theorem dL_law_177 : decode cL_law 177 = .ok (.aload_n 2, 1) := by decide +kernel
theorem dL_law_178 : decode cL_law 178 = .ok (.aload_n 0, 1) := by decide +kernel
theorem dL_law_179 : decode cL_law 179 = .ok (.iload_n 3, 1) := by decide +kernel
theorem dL_law_180 : decode cL_law 180 = .ok (.iconst 1, 1) := by decide +kernel
theorem dL_law_181 : decode cL_law 181 = .ok (.iadd, 1) := by decide +kernel
theorem dL_law_182 : decode cL_law 182 = .ok (.iaload, 1) := by decide +kernel
theorem dL_law_183 : decode cL_law 183 = .ok (.invokevirtual 17, 3) := by decide +kernel
theorem dL_law_186 : decode cL_law 186 = .ok (.if_icmp .eq 769, 3) := by decide +kernel
theorem dL_law_189 : decode cL_law 189 = .ok (.iconst 0, 1) := by decide +kernel
theorem dL_law_190 : decode cL_law 190 = .ok (.ireturn, 1) := by decide +kernel
theorem dL_law_191 : decode cL_law 191 = .ok (.aload_n 1, 1) := by decide +kernel
theorem dL_law_192 : decode cL_law 192 = .ok (.aload_n 0, 1) := by decide +kernel
theorem dL_law_193 : decode cL_law 193 = .ok (.iload_n 3, 1) := by decide +kernel
theorem dL_law_194 : decode cL_law 194 = .ok (.iconst 1, 1) := by decide +kernel
theorem dL_law_195 : decode cL_law 195 = .ok (.iadd, 1) := by decide +kernel
theorem dL_law_196 : decode cL_law 196 = .ok (.iaload, 1) := by decide +kernel
theorem dL_law_197 : decode cL_law 197 = .ok (.aload_n 0, 1) := by decide +kernel
theorem dL_law_198 : decode cL_law 198 = .ok (.iload_n 3, 1) := by decide +kernel
theorem dL_law_199 : decode cL_law 199 = .ok (.iconst 2, 1) := by decide +kernel
theorem dL_law_200 : decode cL_law 200 = .ok (.iadd, 1) := by decide +kernel
theorem dL_law_201 : decode cL_law 201 = .ok (.iaload, 1) := by decide +kernel
theorem dL_law_202 : decode cL_law 202 = .ok (.aload_n 0, 1) := by decide +kernel
theorem dL_law_203 : decode cL_law 203 = .ok (.iload_n 3, 1) := by decide +kernel
theorem dL_law_204 : decode cL_law 204 = .ok (.iconst 3, 1) := by decide +kernel
theorem dL_law_205 : decode cL_law 205 = .ok (.iadd, 1) := by decide +kernel
theorem dL_law_206 : decode cL_law 206 = .ok (.iaload, 1) := by decide +kernel
theorem dL_law_207 : decode cL_law 207 = .ok (.aload_n 0, 1) := by decide +kernel
theorem dL_law_208 : decode cL_law 208 = .ok (.iload_n 3, 1) := by decide +kernel
theorem dL_law_209 : decode cL_law 209 = .ok (.iconst 4, 1) := by decide +kernel
theorem dL_law_210 : decode cL_law 210 = .ok (.iadd, 1) := by decide +kernel
theorem dL_law_211 : decode cL_law 211 = .ok (.iaload, 1) := by decide +kernel
theorem dL_law_212 : decode cL_law 212 = .ok (.invokevirtual 18, 3) := by decide +kernel
theorem dL_law_215 : decode cL_law 215 = .ok (.aload_n 2, 1) := by decide +kernel
theorem dL_law_216 : decode cL_law 216 = .ok (.aload_n 0, 1) := by decide +kernel
theorem dL_law_217 : decode cL_law 217 = .ok (.iload_n 3, 1) := by decide +kernel
theorem dL_law_218 : decode cL_law 218 = .ok (.iconst 1, 1) := by decide +kernel
theorem dL_law_219 : decode cL_law 219 = .ok (.iadd, 1) := by decide +kernel
theorem dL_law_220 : decode cL_law 220 = .ok (.iaload, 1) := by decide +kernel
theorem dL_law_221 : decode cL_law 221 = .ok (.aload_n 0, 1) := by decide +kernel
theorem dL_law_222 : decode cL_law 222 = .ok (.iload_n 3, 1) := by decide +kernel
theorem dL_law_223 : decode cL_law 223 = .ok (.iconst 2, 1) := by decide +kernel
theorem dL_law_224 : decode cL_law 224 = .ok (.iadd, 1) := by decide +kernel
theorem dL_law_225 : decode cL_law 225 = .ok (.iaload, 1) := by decide +kernel
theorem dL_law_226 : decode cL_law 226 = .ok (.aload_n 0, 1) := by decide +kernel
theorem dL_law_227 : decode cL_law 227 = .ok (.iload_n 3, 1) := by decide +kernel
theorem dL_law_228 : decode cL_law 228 = .ok (.iconst 3, 1) := by decide +kernel
theorem dL_law_229 : decode cL_law 229 = .ok (.iadd, 1) := by decide +kernel
theorem dL_law_230 : decode cL_law 230 = .ok (.iaload, 1) := by decide +kernel
theorem dL_law_231 : decode cL_law 231 = .ok (.aload_n 0, 1) := by decide +kernel
theorem dL_law_232 : decode cL_law 232 = .ok (.iload_n 3, 1) := by decide +kernel
theorem dL_law_233 : decode cL_law 233 = .ok (.iconst 4, 1) := by decide +kernel
theorem dL_law_234 : decode cL_law 234 = .ok (.iadd, 1) := by decide +kernel
theorem dL_law_235 : decode cL_law 235 = .ok (.iaload, 1) := by decide +kernel
theorem dL_law_236 : decode cL_law 236 = .ok (.invokevirtual 22, 3) := by decide +kernel
theorem dL_law_239 : decode cL_law 239 = .ok (.if_icmp .eq 716, 3) := by decide +kernel
theorem dL_law_242 : decode cL_law 242 = .ok (.iconst 0, 1) := by decide +kernel
theorem dL_law_243 : decode cL_law 243 = .ok (.ireturn, 1) := by decide +kernel
theorem dL_law_244 : decode cL_law 244 = .ok (.aload_n 1, 1) := by decide +kernel
theorem dL_law_245 : decode cL_law 245 = .ok (.aload_n 0, 1) := by decide +kernel
theorem dL_law_246 : decode cL_law 246 = .ok (.iload_n 3, 1) := by decide +kernel
theorem dL_law_247 : decode cL_law 247 = .ok (.iconst 1, 1) := by decide +kernel
theorem dL_law_248 : decode cL_law 248 = .ok (.iadd, 1) := by decide +kernel
theorem dL_law_249 : decode cL_law 249 = .ok (.iaload, 1) := by decide +kernel
theorem dL_law_250 : decode cL_law 250 = .ok (.aload_n 0, 1) := by decide +kernel
theorem dL_law_251 : decode cL_law 251 = .ok (.iload_n 3, 1) := by decide +kernel
theorem dL_law_252 : decode cL_law 252 = .ok (.iconst 2, 1) := by decide +kernel
theorem dL_law_253 : decode cL_law 253 = .ok (.iadd, 1) := by decide +kernel
theorem dL_law_254 : decode cL_law 254 = .ok (.iaload, 1) := by decide +kernel
theorem dL_law_255 : decode cL_law 255 = .ok (.ifCond .eq 7, 3) := by decide +kernel
theorem dL_law_258 : decode cL_law 258 = .ok (.iconst 1, 1) := by decide +kernel
theorem dL_law_259 : decode cL_law 259 = .ok (.goto 4, 3) := by decide +kernel
theorem dL_law_262 : decode cL_law 262 = .ok (.iconst 0, 1) := by decide +kernel
theorem dL_law_263 : decode cL_law 263 = .ok (.invokevirtual 23, 3) := by decide +kernel
theorem dL_law_266 : decode cL_law 266 = .ok (.aload_n 2, 1) := by decide +kernel
theorem dL_law_267 : decode cL_law 267 = .ok (.aload_n 0, 1) := by decide +kernel
theorem dL_law_268 : decode cL_law 268 = .ok (.iload_n 3, 1) := by decide +kernel
theorem dL_law_269 : decode cL_law 269 = .ok (.iconst 1, 1) := by decide +kernel
theorem dL_law_270 : decode cL_law 270 = .ok (.iadd, 1) := by decide +kernel
theorem dL_law_271 : decode cL_law 271 = .ok (.iaload, 1) := by decide +kernel
theorem dL_law_272 : decode cL_law 272 = .ok (.aload_n 0, 1) := by decide +kernel
theorem dL_law_273 : decode cL_law 273 = .ok (.iload_n 3, 1) := by decide +kernel
theorem dL_law_274 : decode cL_law 274 = .ok (.iconst 2, 1) := by decide +kernel
theorem dL_law_275 : decode cL_law 275 = .ok (.iadd, 1) := by decide +kernel
theorem dL_law_276 : decode cL_law 276 = .ok (.iaload, 1) := by decide +kernel
theorem dL_law_277 : decode cL_law 277 = .ok (.ifCond .eq 7, 3) := by decide +kernel
theorem dL_law_280 : decode cL_law 280 = .ok (.iconst 1, 1) := by decide +kernel
theorem dL_law_281 : decode cL_law 281 = .ok (.goto 4, 3) := by decide +kernel
theorem dL_law_284 : decode cL_law 284 = .ok (.iconst 0, 1) := by decide +kernel
theorem dL_law_285 : decode cL_law 285 = .ok (.invokevirtual 27, 3) := by decide +kernel
theorem dL_law_288 : decode cL_law 288 = .ok (.if_icmp .eq 667, 3) := by decide +kernel
theorem dL_law_291 : decode cL_law 291 = .ok (.iconst 0, 1) := by decide +kernel
theorem dL_law_292 : decode cL_law 292 = .ok (.ireturn, 1) := by decide +kernel
theorem dL_law_293 : decode cL_law 293 = .ok (.aload_n 1, 1) := by decide +kernel
theorem dL_law_294 : decode cL_law 294 = .ok (.aload_n 0, 1) := by decide +kernel
theorem dL_law_295 : decode cL_law 295 = .ok (.iload_n 3, 1) := by decide +kernel
theorem dL_law_296 : decode cL_law 296 = .ok (.iconst 1, 1) := by decide +kernel
theorem dL_law_297 : decode cL_law 297 = .ok (.iadd, 1) := by decide +kernel
theorem dL_law_298 : decode cL_law 298 = .ok (.iaload, 1) := by decide +kernel
theorem dL_law_299 : decode cL_law 299 = .ok (.aload_n 0, 1) := by decide +kernel
theorem dL_law_300 : decode cL_law 300 = .ok (.iload_n 3, 1) := by decide +kernel
theorem dL_law_301 : decode cL_law 301 = .ok (.iconst 2, 1) := by decide +kernel
theorem dL_law_302 : decode cL_law 302 = .ok (.iadd, 1) := by decide +kernel
theorem dL_law_303 : decode cL_law 303 = .ok (.iaload, 1) := by decide +kernel
theorem dL_law_304 : decode cL_law 304 = .ok (.invokevirtual 28, 3) := by decide +kernel
theorem dL_law_307 : decode cL_law 307 = .ok (.aload_n 2, 1) := by decide +kernel
theorem dL_law_308 : decode cL_law 308 = .ok (.aload_n 0, 1) := by decide +kernel
theorem dL_law_309 : decode cL_law 309 = .ok (.iload_n 3, 1) := by decide +kernel
theorem dL_law_310 : decode cL_law 310 = .ok (.iconst 1, 1) := by decide +kernel
theorem dL_law_311 : decode cL_law 311 = .ok (.iadd, 1) := by decide +kernel
theorem dL_law_312 : decode cL_law 312 = .ok (.iaload, 1) := by decide +kernel
theorem dL_law_313 : decode cL_law 313 = .ok (.aload_n 0, 1) := by decide +kernel
theorem dL_law_314 : decode cL_law 314 = .ok (.iload_n 3, 1) := by decide +kernel
theorem dL_law_315 : decode cL_law 315 = .ok (.iconst 2, 1) := by decide +kernel
theorem dL_law_316 : decode cL_law 316 = .ok (.iadd, 1) := by decide +kernel
theorem dL_law_317 : decode cL_law 317 = .ok (.iaload, 1) := by decide +kernel
theorem dL_law_318 : decode cL_law 318 = .ok (.invokevirtual 32, 3) := by decide +kernel
theorem dL_law_321 : decode cL_law 321 = .ok (.if_icmp .eq 634, 3) := by decide +kernel
theorem dL_law_324 : decode cL_law 324 = .ok (.iconst 0, 1) := by decide +kernel
theorem dL_law_325 : decode cL_law 325 = .ok (.ireturn, 1) := by decide +kernel
theorem dL_law_326 : decode cL_law 326 = .ok (.aload_n 1, 1) := by decide +kernel
theorem dL_law_327 : decode cL_law 327 = .ok (.aload_n 0, 1) := by decide +kernel
theorem dL_law_328 : decode cL_law 328 = .ok (.iload_n 3, 1) := by decide +kernel
theorem dL_law_329 : decode cL_law 329 = .ok (.iconst 1, 1) := by decide +kernel
theorem dL_law_330 : decode cL_law 330 = .ok (.iadd, 1) := by decide +kernel
theorem dL_law_331 : decode cL_law 331 = .ok (.iaload, 1) := by decide +kernel
theorem dL_law_332 : decode cL_law 332 = .ok (.aload_n 0, 1) := by decide +kernel
theorem dL_law_333 : decode cL_law 333 = .ok (.iload_n 3, 1) := by decide +kernel
theorem dL_law_334 : decode cL_law 334 = .ok (.iconst 2, 1) := by decide +kernel
theorem dL_law_335 : decode cL_law 335 = .ok (.iadd, 1) := by decide +kernel
theorem dL_law_336 : decode cL_law 336 = .ok (.iaload, 1) := by decide +kernel
theorem dL_law_337 : decode cL_law 337 = .ok (.invokevirtual 33, 3) := by decide +kernel
theorem dL_law_340 : decode cL_law 340 = .ok (.aload_n 2, 1) := by decide +kernel
theorem dL_law_341 : decode cL_law 341 = .ok (.aload_n 0, 1) := by decide +kernel
theorem dL_law_342 : decode cL_law 342 = .ok (.iload_n 3, 1) := by decide +kernel
theorem dL_law_343 : decode cL_law 343 = .ok (.iconst 1, 1) := by decide +kernel
theorem dL_law_344 : decode cL_law 344 = .ok (.iadd, 1) := by decide +kernel
theorem dL_law_345 : decode cL_law 345 = .ok (.iaload, 1) := by decide +kernel
theorem dL_law_346 : decode cL_law 346 = .ok (.aload_n 0, 1) := by decide +kernel
theorem dL_law_347 : decode cL_law 347 = .ok (.iload_n 3, 1) := by decide +kernel
theorem dL_law_348 : decode cL_law 348 = .ok (.iconst 2, 1) := by decide +kernel
theorem dL_law_349 : decode cL_law 349 = .ok (.iadd, 1) := by decide +kernel
theorem dL_law_350 : decode cL_law 350 = .ok (.iaload, 1) := by decide +kernel
theorem dL_law_351 : decode cL_law 351 = .ok (.invokevirtual 36, 3) := by decide +kernel
theorem dL_law_354 : decode cL_law 354 = .ok (.if_icmp .eq 601, 3) := by decide +kernel
theorem dL_law_357 : decode cL_law 357 = .ok (.iconst 0, 1) := by decide +kernel
theorem dL_law_358 : decode cL_law 358 = .ok (.ireturn, 1) := by decide +kernel
theorem dL_law_359 : decode cL_law 359 = .ok (.aload_n 1, 1) := by decide +kernel
theorem dL_law_360 : decode cL_law 360 = .ok (.aload_n 0, 1) := by decide +kernel
theorem dL_law_361 : decode cL_law 361 = .ok (.iload_n 3, 1) := by decide +kernel
theorem dL_law_362 : decode cL_law 362 = .ok (.iconst 1, 1) := by decide +kernel
theorem dL_law_363 : decode cL_law 363 = .ok (.iadd, 1) := by decide +kernel
theorem dL_law_364 : decode cL_law 364 = .ok (.iaload, 1) := by decide +kernel
theorem dL_law_365 : decode cL_law 365 = .ok (.invokevirtual 37, 3) := by decide +kernel
theorem dL_law_368 : decode cL_law 368 = .ok (.aload_n 2, 1) := by decide +kernel
theorem dL_law_369 : decode cL_law 369 = .ok (.aload_n 0, 1) := by decide +kernel
theorem dL_law_370 : decode cL_law 370 = .ok (.iload_n 3, 1) := by decide +kernel
theorem dL_law_371 : decode cL_law 371 = .ok (.iconst 1, 1) := by decide +kernel
theorem dL_law_372 : decode cL_law 372 = .ok (.iadd, 1) := by decide +kernel
theorem dL_law_373 : decode cL_law 373 = .ok (.iaload, 1) := by decide +kernel
theorem dL_law_374 : decode cL_law 374 = .ok (.invokevirtual 40, 3) := by decide +kernel
theorem dL_law_377 : decode cL_law 377 = .ok (.if_icmp .eq 578, 3) := by decide +kernel
theorem dL_law_380 : decode cL_law 380 = .ok (.iconst 0, 1) := by decide +kernel
theorem dL_law_381 : decode cL_law 381 = .ok (.ireturn, 1) := by decide +kernel
theorem dL_law_382 : decode cL_law 382 = .ok (.aload_n 1, 1) := by decide +kernel
theorem dL_law_383 : decode cL_law 383 = .ok (.aload_n 0, 1) := by decide +kernel
theorem dL_law_384 : decode cL_law 384 = .ok (.iload_n 3, 1) := by decide +kernel
theorem dL_law_385 : decode cL_law 385 = .ok (.iconst 1, 1) := by decide +kernel
theorem dL_law_386 : decode cL_law 386 = .ok (.iadd, 1) := by decide +kernel
theorem dL_law_387 : decode cL_law 387 = .ok (.iaload, 1) := by decide +kernel
theorem dL_law_388 : decode cL_law 388 = .ok (.i2l, 1) := by decide +kernel
theorem dL_law_389 : decode cL_law 389 = .ok (.bipush 32, 2) := by decide +kernel
theorem dL_law_391 : decode cL_law 391 = .ok (.lshl, 1) := by decide +kernel
theorem dL_law_392 : decode cL_law 392 = .ok (.aload_n 0, 1) := by decide +kernel
theorem dL_law_393 : decode cL_law 393 = .ok (.iload_n 3, 1) := by decide +kernel
theorem dL_law_394 : decode cL_law 394 = .ok (.iconst 2, 1) := by decide +kernel
theorem dL_law_395 : decode cL_law 395 = .ok (.iadd, 1) := by decide +kernel
theorem dL_law_396 : decode cL_law 396 = .ok (.iaload, 1) := by decide +kernel
theorem dL_law_397 : decode cL_law 397 = .ok (.i2l, 1) := by decide +kernel
theorem dL_law_398 : decode cL_law 398 = .ok (.ldc2_w 41, 3) := by decide +kernel
theorem dL_law_401 : decode cL_law 401 = .ok (.land, 1) := by decide +kernel
theorem dL_law_402 : decode cL_law 402 = .ok (.lor, 1) := by decide +kernel
theorem dL_law_403 : decode cL_law 403 = .ok (.aload_n 0, 1) := by decide +kernel
theorem dL_law_404 : decode cL_law 404 = .ok (.iload_n 3, 1) := by decide +kernel
theorem dL_law_405 : decode cL_law 405 = .ok (.iconst 3, 1) := by decide +kernel
theorem dL_law_406 : decode cL_law 406 = .ok (.iadd, 1) := by decide +kernel
theorem dL_law_407 : decode cL_law 407 = .ok (.iaload, 1) := by decide +kernel
theorem dL_law_408 : decode cL_law 408 = .ok (.invokevirtual 43, 3) := by decide +kernel
theorem dL_law_411 : decode cL_law 411 = .ok (.aload_n 2, 1) := by decide +kernel
theorem dL_law_412 : decode cL_law 412 = .ok (.aload_n 0, 1) := by decide +kernel
theorem dL_law_413 : decode cL_law 413 = .ok (.iload_n 3, 1) := by decide +kernel
theorem dL_law_414 : decode cL_law 414 = .ok (.iconst 1, 1) := by decide +kernel
theorem dL_law_415 : decode cL_law 415 = .ok (.iadd, 1) := by decide +kernel
theorem dL_law_416 : decode cL_law 416 = .ok (.iaload, 1) := by decide +kernel
theorem dL_law_417 : decode cL_law 417 = .ok (.i2l, 1) := by decide +kernel
theorem dL_law_418 : decode cL_law 418 = .ok (.bipush 32, 2) := by decide +kernel
theorem dL_law_420 : decode cL_law 420 = .ok (.lshl, 1) := by decide +kernel
theorem dL_law_421 : decode cL_law 421 = .ok (.aload_n 0, 1) := by decide +kernel
theorem dL_law_422 : decode cL_law 422 = .ok (.iload_n 3, 1) := by decide +kernel
theorem dL_law_423 : decode cL_law 423 = .ok (.iconst 2, 1) := by decide +kernel
theorem dL_law_424 : decode cL_law 424 = .ok (.iadd, 1) := by decide +kernel
theorem dL_law_425 : decode cL_law 425 = .ok (.iaload, 1) := by decide +kernel
theorem dL_law_426 : decode cL_law 426 = .ok (.i2l, 1) := by decide +kernel
theorem dL_law_427 : decode cL_law 427 = .ok (.ldc2_w 41, 3) := by decide +kernel
theorem dL_law_430 : decode cL_law 430 = .ok (.land, 1) := by decide +kernel
theorem dL_law_431 : decode cL_law 431 = .ok (.lor, 1) := by decide +kernel
theorem dL_law_432 : decode cL_law 432 = .ok (.aload_n 0, 1) := by decide +kernel
theorem dL_law_433 : decode cL_law 433 = .ok (.iload_n 3, 1) := by decide +kernel
theorem dL_law_434 : decode cL_law 434 = .ok (.iconst 3, 1) := by decide +kernel
theorem dL_law_435 : decode cL_law 435 = .ok (.iadd, 1) := by decide +kernel
theorem dL_law_436 : decode cL_law 436 = .ok (.iaload, 1) := by decide +kernel
theorem dL_law_437 : decode cL_law 437 = .ok (.invokevirtual 47, 3) := by decide +kernel
theorem dL_law_440 : decode cL_law 440 = .ok (.if_icmp .eq 515, 3) := by decide +kernel
theorem dL_law_443 : decode cL_law 443 = .ok (.iconst 0, 1) := by decide +kernel
theorem dL_law_444 : decode cL_law 444 = .ok (.ireturn, 1) := by decide +kernel
theorem dL_law_445 : decode cL_law 445 = .ok (.aload_n 1, 1) := by decide +kernel
theorem dL_law_446 : decode cL_law 446 = .ok (.invokevirtual 48, 3) := by decide +kernel
theorem dL_law_449 : decode cL_law 449 = .ok (.aload_n 2, 1) := by decide +kernel
theorem dL_law_450 : decode cL_law 450 = .ok (.invokevirtual 52, 3) := by decide +kernel
theorem dL_law_453 : decode cL_law 453 = .ok (.if_icmp .eq 502, 3) := by decide +kernel
theorem dL_law_456 : decode cL_law 456 = .ok (.iconst 0, 1) := by decide +kernel
theorem dL_law_457 : decode cL_law 457 = .ok (.ireturn, 1) := by decide +kernel
theorem dL_law_458 : decode cL_law 458 = .ok (.aload_n 1, 1) := by decide +kernel
theorem dL_law_459 : decode cL_law 459 = .ok (.invokevirtual 53, 3) := by decide +kernel
theorem dL_law_462 : decode cL_law 462 = .ok (.aload_n 2, 1) := by decide +kernel
theorem dL_law_463 : decode cL_law 463 = .ok (.invokevirtual 56, 3) := by decide +kernel
theorem dL_law_466 : decode cL_law 466 = .ok (.if_icmp .eq 489, 3) := by decide +kernel
theorem dL_law_469 : decode cL_law 469 = .ok (.iconst 0, 1) := by decide +kernel
theorem dL_law_470 : decode cL_law 470 = .ok (.ireturn, 1) := by decide +kernel
theorem dL_law_471 : decode cL_law 471 = .ok (.aload_n 1, 1) := by decide +kernel
theorem dL_law_472 : decode cL_law 472 = .ok (.aload_n 0, 1) := by decide +kernel
theorem dL_law_473 : decode cL_law 473 = .ok (.iload_n 3, 1) := by decide +kernel
theorem dL_law_474 : decode cL_law 474 = .ok (.iconst 1, 1) := by decide +kernel
theorem dL_law_475 : decode cL_law 475 = .ok (.iadd, 1) := by decide +kernel
theorem dL_law_476 : decode cL_law 476 = .ok (.iaload, 1) := by decide +kernel
theorem dL_law_477 : decode cL_law 477 = .ok (.invokevirtual 57, 3) := by decide +kernel
theorem dL_law_480 : decode cL_law 480 = .ok (.aload_n 2, 1) := by decide +kernel
theorem dL_law_481 : decode cL_law 481 = .ok (.aload_n 0, 1) := by decide +kernel
theorem dL_law_482 : decode cL_law 482 = .ok (.iload_n 3, 1) := by decide +kernel
theorem dL_law_483 : decode cL_law 483 = .ok (.iconst 1, 1) := by decide +kernel
theorem dL_law_484 : decode cL_law 484 = .ok (.iadd, 1) := by decide +kernel
theorem dL_law_485 : decode cL_law 485 = .ok (.iaload, 1) := by decide +kernel
theorem dL_law_486 : decode cL_law 486 = .ok (.invokevirtual 60, 3) := by decide +kernel
theorem dL_law_489 : decode cL_law 489 = .ok (.if_icmp .eq 466, 3) := by decide +kernel
theorem dL_law_492 : decode cL_law 492 = .ok (.iconst 0, 1) := by decide +kernel
theorem dL_law_493 : decode cL_law 493 = .ok (.ireturn, 1) := by decide +kernel
theorem dL_law_494 : decode cL_law 494 = .ok (.aload_n 1, 1) := by decide +kernel
theorem dL_law_495 : decode cL_law 495 = .ok (.invokevirtual 61, 3) := by decide +kernel
theorem dL_law_498 : decode cL_law 498 = .ok (.aload_n 2, 1) := by decide +kernel
theorem dL_law_499 : decode cL_law 499 = .ok (.invokevirtual 64, 3) := by decide +kernel
theorem dL_law_502 : decode cL_law 502 = .ok (.if_icmp .eq 453, 3) := by decide +kernel
theorem dL_law_505 : decode cL_law 505 = .ok (.iconst 0, 1) := by decide +kernel
theorem dL_law_506 : decode cL_law 506 = .ok (.ireturn, 1) := by decide +kernel
theorem dL_law_507 : decode cL_law 507 = .ok (.aload_n 1, 1) := by decide +kernel
theorem dL_law_508 : decode cL_law 508 = .ok (.aload_n 0, 1) := by decide +kernel
theorem dL_law_509 : decode cL_law 509 = .ok (.iload_n 3, 1) := by decide +kernel
theorem dL_law_510 : decode cL_law 510 = .ok (.iconst 1, 1) := by decide +kernel
theorem dL_law_511 : decode cL_law 511 = .ok (.iadd, 1) := by decide +kernel
theorem dL_law_512 : decode cL_law 512 = .ok (.iaload, 1) := by decide +kernel
theorem dL_law_513 : decode cL_law 513 = .ok (.aload_n 0, 1) := by decide +kernel
theorem dL_law_514 : decode cL_law 514 = .ok (.iload_n 3, 1) := by decide +kernel
theorem dL_law_515 : decode cL_law 515 = .ok (.iconst 2, 1) := by decide +kernel
theorem dL_law_516 : decode cL_law 516 = .ok (.iadd, 1) := by decide +kernel
theorem dL_law_517 : decode cL_law 517 = .ok (.iaload, 1) := by decide +kernel
theorem dL_law_518 : decode cL_law 518 = .ok (.invokevirtual 65, 3) := by decide +kernel
theorem dL_law_521 : decode cL_law 521 = .ok (.aload_n 2, 1) := by decide +kernel
theorem dL_law_522 : decode cL_law 522 = .ok (.aload_n 0, 1) := by decide +kernel
theorem dL_law_523 : decode cL_law 523 = .ok (.iload_n 3, 1) := by decide +kernel
theorem dL_law_524 : decode cL_law 524 = .ok (.iconst 1, 1) := by decide +kernel
theorem dL_law_525 : decode cL_law 525 = .ok (.iadd, 1) := by decide +kernel
theorem dL_law_526 : decode cL_law 526 = .ok (.iaload, 1) := by decide +kernel
theorem dL_law_527 : decode cL_law 527 = .ok (.aload_n 0, 1) := by decide +kernel
theorem dL_law_528 : decode cL_law 528 = .ok (.iload_n 3, 1) := by decide +kernel
theorem dL_law_529 : decode cL_law 529 = .ok (.iconst 2, 1) := by decide +kernel
theorem dL_law_530 : decode cL_law 530 = .ok (.iadd, 1) := by decide +kernel
theorem dL_law_531 : decode cL_law 531 = .ok (.iaload, 1) := by decide +kernel
theorem dL_law_532 : decode cL_law 532 = .ok (.invokevirtual 68, 3) := by decide +kernel
theorem dL_law_535 : decode cL_law 535 = .ok (.if_icmp .eq 420, 3) := by decide +kernel
theorem dL_law_538 : decode cL_law 538 = .ok (.iconst 0, 1) := by decide +kernel
theorem dL_law_539 : decode cL_law 539 = .ok (.ireturn, 1) := by decide +kernel
theorem dL_law_540 : decode cL_law 540 = .ok (.aload_n 1, 1) := by decide +kernel
theorem dL_law_541 : decode cL_law 541 = .ok (.aload_n 0, 1) := by decide +kernel
theorem dL_law_542 : decode cL_law 542 = .ok (.iload_n 3, 1) := by decide +kernel
theorem dL_law_543 : decode cL_law 543 = .ok (.iconst 1, 1) := by decide +kernel
theorem dL_law_544 : decode cL_law 544 = .ok (.iadd, 1) := by decide +kernel
theorem dL_law_545 : decode cL_law 545 = .ok (.iaload, 1) := by decide +kernel
theorem dL_law_546 : decode cL_law 546 = .ok (.invokevirtual 69, 3) := by decide +kernel
theorem dL_law_549 : decode cL_law 549 = .ok (.aload_n 2, 1) := by decide +kernel
theorem dL_law_550 : decode cL_law 550 = .ok (.aload_n 0, 1) := by decide +kernel
theorem dL_law_551 : decode cL_law 551 = .ok (.iload_n 3, 1) := by decide +kernel
theorem dL_law_552 : decode cL_law 552 = .ok (.iconst 1, 1) := by decide +kernel
theorem dL_law_553 : decode cL_law 553 = .ok (.iadd, 1) := by decide +kernel
theorem dL_law_554 : decode cL_law 554 = .ok (.iaload, 1) := by decide +kernel
theorem dL_law_555 : decode cL_law 555 = .ok (.invokevirtual 72, 3) := by decide +kernel
theorem dL_law_558 : decode cL_law 558 = .ok (.if_icmp .eq 397, 3) := by decide +kernel
theorem dL_law_561 : decode cL_law 561 = .ok (.iconst 0, 1) := by decide +kernel
theorem dL_law_562 : decode cL_law 562 = .ok (.ireturn, 1) := by decide +kernel
theorem dL_law_563 : decode cL_law 563 = .ok (.aload_n 1, 1) := by decide +kernel
theorem dL_law_564 : decode cL_law 564 = .ok (.aload_n 0, 1) := by decide +kernel
theorem dL_law_565 : decode cL_law 565 = .ok (.iload_n 3, 1) := by decide +kernel
theorem dL_law_566 : decode cL_law 566 = .ok (.iconst 1, 1) := by decide +kernel
theorem dL_law_567 : decode cL_law 567 = .ok (.iadd, 1) := by decide +kernel
theorem dL_law_568 : decode cL_law 568 = .ok (.iaload, 1) := by decide +kernel
theorem dL_law_569 : decode cL_law 569 = .ok (.aload_n 0, 1) := by decide +kernel
theorem dL_law_570 : decode cL_law 570 = .ok (.iload_n 3, 1) := by decide +kernel
theorem dL_law_571 : decode cL_law 571 = .ok (.iconst 2, 1) := by decide +kernel
theorem dL_law_572 : decode cL_law 572 = .ok (.iadd, 1) := by decide +kernel
theorem dL_law_573 : decode cL_law 573 = .ok (.iaload, 1) := by decide +kernel
theorem dL_law_574 : decode cL_law 574 = .ok (.aload_n 0, 1) := by decide +kernel
theorem dL_law_575 : decode cL_law 575 = .ok (.iload_n 3, 1) := by decide +kernel
theorem dL_law_576 : decode cL_law 576 = .ok (.iconst 3, 1) := by decide +kernel
theorem dL_law_577 : decode cL_law 577 = .ok (.iadd, 1) := by decide +kernel
theorem dL_law_578 : decode cL_law 578 = .ok (.iaload, 1) := by decide +kernel
theorem dL_law_579 : decode cL_law 579 = .ok (.invokevirtual 73, 3) := by decide +kernel
theorem dL_law_582 : decode cL_law 582 = .ok (.aload_n 2, 1) := by decide +kernel
theorem dL_law_583 : decode cL_law 583 = .ok (.aload_n 0, 1) := by decide +kernel
theorem dL_law_584 : decode cL_law 584 = .ok (.iload_n 3, 1) := by decide +kernel
theorem dL_law_585 : decode cL_law 585 = .ok (.iconst 1, 1) := by decide +kernel
theorem dL_law_586 : decode cL_law 586 = .ok (.iadd, 1) := by decide +kernel
theorem dL_law_587 : decode cL_law 587 = .ok (.iaload, 1) := by decide +kernel
theorem dL_law_588 : decode cL_law 588 = .ok (.aload_n 0, 1) := by decide +kernel
theorem dL_law_589 : decode cL_law 589 = .ok (.iload_n 3, 1) := by decide +kernel
theorem dL_law_590 : decode cL_law 590 = .ok (.iconst 2, 1) := by decide +kernel
theorem dL_law_591 : decode cL_law 591 = .ok (.iadd, 1) := by decide +kernel
theorem dL_law_592 : decode cL_law 592 = .ok (.iaload, 1) := by decide +kernel
theorem dL_law_593 : decode cL_law 593 = .ok (.aload_n 0, 1) := by decide +kernel
theorem dL_law_594 : decode cL_law 594 = .ok (.iload_n 3, 1) := by decide +kernel
theorem dL_law_595 : decode cL_law 595 = .ok (.iconst 3, 1) := by decide +kernel
theorem dL_law_596 : decode cL_law 596 = .ok (.iadd, 1) := by decide +kernel
theorem dL_law_597 : decode cL_law 597 = .ok (.iaload, 1) := by decide +kernel
theorem dL_law_598 : decode cL_law 598 = .ok (.invokevirtual 77, 3) := by decide +kernel
theorem dL_law_601 : decode cL_law 601 = .ok (.if_icmp .eq 354, 3) := by decide +kernel
theorem dL_law_604 : decode cL_law 604 = .ok (.iconst 0, 1) := by decide +kernel
theorem dL_law_605 : decode cL_law 605 = .ok (.ireturn, 1) := by decide +kernel
theorem dL_law_606 : decode cL_law 606 = .ok (.aload_n 1, 1) := by decide +kernel
theorem dL_law_607 : decode cL_law 607 = .ok (.aload_n 0, 1) := by decide +kernel
theorem dL_law_608 : decode cL_law 608 = .ok (.iload_n 3, 1) := by decide +kernel
theorem dL_law_609 : decode cL_law 609 = .ok (.iconst 1, 1) := by decide +kernel
theorem dL_law_610 : decode cL_law 610 = .ok (.iadd, 1) := by decide +kernel
theorem dL_law_611 : decode cL_law 611 = .ok (.iaload, 1) := by decide +kernel
theorem dL_law_612 : decode cL_law 612 = .ok (.aload_n 0, 1) := by decide +kernel
theorem dL_law_613 : decode cL_law 613 = .ok (.iload_n 3, 1) := by decide +kernel
theorem dL_law_614 : decode cL_law 614 = .ok (.iconst 2, 1) := by decide +kernel
theorem dL_law_615 : decode cL_law 615 = .ok (.iadd, 1) := by decide +kernel
theorem dL_law_616 : decode cL_law 616 = .ok (.iaload, 1) := by decide +kernel
theorem dL_law_617 : decode cL_law 617 = .ok (.aload_n 0, 1) := by decide +kernel
theorem dL_law_618 : decode cL_law 618 = .ok (.iload_n 3, 1) := by decide +kernel
theorem dL_law_619 : decode cL_law 619 = .ok (.iconst 3, 1) := by decide +kernel
theorem dL_law_620 : decode cL_law 620 = .ok (.iadd, 1) := by decide +kernel
theorem dL_law_621 : decode cL_law 621 = .ok (.iaload, 1) := by decide +kernel
theorem dL_law_622 : decode cL_law 622 = .ok (.invokevirtual 78, 3) := by decide +kernel
theorem dL_law_625 : decode cL_law 625 = .ok (.aload_n 2, 1) := by decide +kernel
theorem dL_law_626 : decode cL_law 626 = .ok (.aload_n 0, 1) := by decide +kernel
theorem dL_law_627 : decode cL_law 627 = .ok (.iload_n 3, 1) := by decide +kernel
theorem dL_law_628 : decode cL_law 628 = .ok (.iconst 1, 1) := by decide +kernel
theorem dL_law_629 : decode cL_law 629 = .ok (.iadd, 1) := by decide +kernel
theorem dL_law_630 : decode cL_law 630 = .ok (.iaload, 1) := by decide +kernel
theorem dL_law_631 : decode cL_law 631 = .ok (.aload_n 0, 1) := by decide +kernel
theorem dL_law_632 : decode cL_law 632 = .ok (.iload_n 3, 1) := by decide +kernel
theorem dL_law_633 : decode cL_law 633 = .ok (.iconst 2, 1) := by decide +kernel
theorem dL_law_634 : decode cL_law 634 = .ok (.iadd, 1) := by decide +kernel
theorem dL_law_635 : decode cL_law 635 = .ok (.iaload, 1) := by decide +kernel
theorem dL_law_636 : decode cL_law 636 = .ok (.aload_n 0, 1) := by decide +kernel
theorem dL_law_637 : decode cL_law 637 = .ok (.iload_n 3, 1) := by decide +kernel
theorem dL_law_638 : decode cL_law 638 = .ok (.iconst 3, 1) := by decide +kernel
theorem dL_law_639 : decode cL_law 639 = .ok (.iadd, 1) := by decide +kernel
theorem dL_law_640 : decode cL_law 640 = .ok (.iaload, 1) := by decide +kernel
theorem dL_law_641 : decode cL_law 641 = .ok (.invokevirtual 81, 3) := by decide +kernel
theorem dL_law_644 : decode cL_law 644 = .ok (.if_icmp .eq 311, 3) := by decide +kernel
theorem dL_law_647 : decode cL_law 647 = .ok (.iconst 0, 1) := by decide +kernel
theorem dL_law_648 : decode cL_law 648 = .ok (.ireturn, 1) := by decide +kernel
theorem dL_law_649 : decode cL_law 649 = .ok (.aload_n 1, 1) := by decide +kernel
theorem dL_law_650 : decode cL_law 650 = .ok (.aload_n 0, 1) := by decide +kernel
theorem dL_law_651 : decode cL_law 651 = .ok (.iload_n 3, 1) := by decide +kernel
theorem dL_law_652 : decode cL_law 652 = .ok (.iconst 1, 1) := by decide +kernel
theorem dL_law_653 : decode cL_law 653 = .ok (.iadd, 1) := by decide +kernel
theorem dL_law_654 : decode cL_law 654 = .ok (.iaload, 1) := by decide +kernel
theorem dL_law_655 : decode cL_law 655 = .ok (.invokevirtual 82, 3) := by decide +kernel
theorem dL_law_658 : decode cL_law 658 = .ok (.aload_n 2, 1) := by decide +kernel
theorem dL_law_659 : decode cL_law 659 = .ok (.aload_n 0, 1) := by decide +kernel
theorem dL_law_660 : decode cL_law 660 = .ok (.iload_n 3, 1) := by decide +kernel
theorem dL_law_661 : decode cL_law 661 = .ok (.iconst 1, 1) := by decide +kernel
theorem dL_law_662 : decode cL_law 662 = .ok (.iadd, 1) := by decide +kernel
theorem dL_law_663 : decode cL_law 663 = .ok (.iaload, 1) := by decide +kernel
theorem dL_law_664 : decode cL_law 664 = .ok (.invokevirtual 85, 3) := by decide +kernel
theorem dL_law_667 : decode cL_law 667 = .ok (.if_icmp .eq 288, 3) := by decide +kernel
theorem dL_law_670 : decode cL_law 670 = .ok (.iconst 0, 1) := by decide +kernel
theorem dL_law_671 : decode cL_law 671 = .ok (.ireturn, 1) := by decide +kernel
theorem dL_law_672 : decode cL_law 672 = .ok (.aload_n 1, 1) := by decide +kernel
theorem dL_law_673 : decode cL_law 673 = .ok (.invokevirtual 86, 3) := by decide +kernel
theorem dL_law_676 : decode cL_law 676 = .ok (.aload_n 2, 1) := by decide +kernel
theorem dL_law_677 : decode cL_law 677 = .ok (.invokevirtual 89, 3) := by decide +kernel
theorem dL_law_680 : decode cL_law 680 = .ok (.if_icmp .eq 275, 3) := by decide +kernel
theorem dL_law_683 : decode cL_law 683 = .ok (.iconst 0, 1) := by decide +kernel
theorem dL_law_684 : decode cL_law 684 = .ok (.ireturn, 1) := by decide +kernel
theorem dL_law_685 : decode cL_law 685 = .ok (.aload_n 1, 1) := by decide +kernel
theorem dL_law_686 : decode cL_law 686 = .ok (.invokevirtual 90, 3) := by decide +kernel
theorem dL_law_689 : decode cL_law 689 = .ok (.aload_n 2, 1) := by decide +kernel
theorem dL_law_690 : decode cL_law 690 = .ok (.invokevirtual 93, 3) := by decide +kernel
theorem dL_law_693 : decode cL_law 693 = .ok (.if_icmp .eq 262, 3) := by decide +kernel
theorem dL_law_696 : decode cL_law 696 = .ok (.iconst 0, 1) := by decide +kernel
theorem dL_law_697 : decode cL_law 697 = .ok (.ireturn, 1) := by decide +kernel
theorem dL_law_698 : decode cL_law 698 = .ok (.aload_n 1, 1) := by decide +kernel
theorem dL_law_699 : decode cL_law 699 = .ok (.invokevirtual 94, 3) := by decide +kernel
theorem dL_law_702 : decode cL_law 702 = .ok (.aload_n 2, 1) := by decide +kernel
theorem dL_law_703 : decode cL_law 703 = .ok (.invokevirtual 97, 3) := by decide +kernel
theorem dL_law_706 : decode cL_law 706 = .ok (.if_icmp .eq 249, 3) := by decide +kernel
theorem dL_law_709 : decode cL_law 709 = .ok (.iconst 0, 1) := by decide +kernel
theorem dL_law_710 : decode cL_law 710 = .ok (.ireturn, 1) := by decide +kernel
theorem dL_law_711 : decode cL_law 711 = .ok (.aload_n 1, 1) := by decide +kernel
theorem dL_law_712 : decode cL_law 712 = .ok (.aload_n 0, 1) := by decide +kernel
theorem dL_law_713 : decode cL_law 713 = .ok (.iload_n 3, 1) := by decide +kernel
theorem dL_law_714 : decode cL_law 714 = .ok (.iconst 1, 1) := by decide +kernel
theorem dL_law_715 : decode cL_law 715 = .ok (.iadd, 1) := by decide +kernel
theorem dL_law_716 : decode cL_law 716 = .ok (.iaload, 1) := by decide +kernel
theorem dL_law_717 : decode cL_law 717 = .ok (.invokevirtual 98, 3) := by decide +kernel
theorem dL_law_720 : decode cL_law 720 = .ok (.aload_n 2, 1) := by decide +kernel
theorem dL_law_721 : decode cL_law 721 = .ok (.aload_n 0, 1) := by decide +kernel
theorem dL_law_722 : decode cL_law 722 = .ok (.iload_n 3, 1) := by decide +kernel
theorem dL_law_723 : decode cL_law 723 = .ok (.iconst 1, 1) := by decide +kernel
theorem dL_law_724 : decode cL_law 724 = .ok (.iadd, 1) := by decide +kernel
theorem dL_law_725 : decode cL_law 725 = .ok (.iaload, 1) := by decide +kernel
theorem dL_law_726 : decode cL_law 726 = .ok (.invokevirtual 101, 3) := by decide +kernel
theorem dL_law_729 : decode cL_law 729 = .ok (.if_icmp .eq 226, 3) := by decide +kernel
theorem dL_law_732 : decode cL_law 732 = .ok (.iconst 0, 1) := by decide +kernel
theorem dL_law_733 : decode cL_law 733 = .ok (.ireturn, 1) := by decide +kernel
theorem dL_law_734 : decode cL_law 734 = .ok (.aload_n 1, 1) := by decide +kernel
theorem dL_law_735 : decode cL_law 735 = .ok (.invokevirtual 102, 3) := by decide +kernel
theorem dL_law_738 : decode cL_law 738 = .ok (.aload_n 2, 1) := by decide +kernel
theorem dL_law_739 : decode cL_law 739 = .ok (.invokevirtual 105, 3) := by decide +kernel
theorem dL_law_742 : decode cL_law 742 = .ok (.if_icmp .eq 213, 3) := by decide +kernel
theorem dL_law_745 : decode cL_law 745 = .ok (.iconst 0, 1) := by decide +kernel
theorem dL_law_746 : decode cL_law 746 = .ok (.ireturn, 1) := by decide +kernel
theorem dL_law_747 : decode cL_law 747 = .ok (.aload_n 1, 1) := by decide +kernel
theorem dL_law_748 : decode cL_law 748 = .ok (.aload_n 0, 1) := by decide +kernel
theorem dL_law_749 : decode cL_law 749 = .ok (.iload_n 3, 1) := by decide +kernel
theorem dL_law_750 : decode cL_law 750 = .ok (.iconst 1, 1) := by decide +kernel
theorem dL_law_751 : decode cL_law 751 = .ok (.iadd, 1) := by decide +kernel
theorem dL_law_752 : decode cL_law 752 = .ok (.iaload, 1) := by decide +kernel
theorem dL_law_753 : decode cL_law 753 = .ok (.invokevirtual 106, 3) := by decide +kernel
theorem dL_law_756 : decode cL_law 756 = .ok (.aload_n 2, 1) := by decide +kernel
theorem dL_law_757 : decode cL_law 757 = .ok (.aload_n 0, 1) := by decide +kernel
theorem dL_law_758 : decode cL_law 758 = .ok (.iload_n 3, 1) := by decide +kernel
theorem dL_law_759 : decode cL_law 759 = .ok (.iconst 1, 1) := by decide +kernel
theorem dL_law_760 : decode cL_law 760 = .ok (.iadd, 1) := by decide +kernel
theorem dL_law_761 : decode cL_law 761 = .ok (.iaload, 1) := by decide +kernel
theorem dL_law_762 : decode cL_law 762 = .ok (.invokevirtual 109, 3) := by decide +kernel
theorem dL_law_765 : decode cL_law 765 = .ok (.if_icmp .eq 190, 3) := by decide +kernel
theorem dL_law_768 : decode cL_law 768 = .ok (.iconst 0, 1) := by decide +kernel
theorem dL_law_769 : decode cL_law 769 = .ok (.ireturn, 1) := by decide +kernel
theorem dL_law_770 : decode cL_law 770 = .ok (.aload_n 1, 1) := by decide +kernel
theorem dL_law_771 : decode cL_law 771 = .ok (.aload_n 0, 1) := by decide +kernel
theorem dL_law_772 : decode cL_law 772 = .ok (.iload_n 3, 1) := by decide +kernel
theorem dL_law_773 : decode cL_law 773 = .ok (.iconst 1, 1) := by decide +kernel
theorem dL_law_774 : decode cL_law 774 = .ok (.iadd, 1) := by decide +kernel
theorem dL_law_775 : decode cL_law 775 = .ok (.iaload, 1) := by decide +kernel
theorem dL_law_776 : decode cL_law 776 = .ok (.aload_n 0, 1) := by decide +kernel
theorem dL_law_777 : decode cL_law 777 = .ok (.iload_n 3, 1) := by decide +kernel
theorem dL_law_778 : decode cL_law 778 = .ok (.iconst 2, 1) := by decide +kernel
theorem dL_law_779 : decode cL_law 779 = .ok (.iadd, 1) := by decide +kernel
theorem dL_law_780 : decode cL_law 780 = .ok (.iaload, 1) := by decide +kernel
theorem dL_law_781 : decode cL_law 781 = .ok (.invokevirtual 110, 3) := by decide +kernel
theorem dL_law_784 : decode cL_law 784 = .ok (.aload_n 2, 1) := by decide +kernel
theorem dL_law_785 : decode cL_law 785 = .ok (.aload_n 0, 1) := by decide +kernel
theorem dL_law_786 : decode cL_law 786 = .ok (.iload_n 3, 1) := by decide +kernel
theorem dL_law_787 : decode cL_law 787 = .ok (.iconst 1, 1) := by decide +kernel
theorem dL_law_788 : decode cL_law 788 = .ok (.iadd, 1) := by decide +kernel
theorem dL_law_789 : decode cL_law 789 = .ok (.iaload, 1) := by decide +kernel
theorem dL_law_790 : decode cL_law 790 = .ok (.aload_n 0, 1) := by decide +kernel
theorem dL_law_791 : decode cL_law 791 = .ok (.iload_n 3, 1) := by decide +kernel
theorem dL_law_792 : decode cL_law 792 = .ok (.iconst 2, 1) := by decide +kernel
theorem dL_law_793 : decode cL_law 793 = .ok (.iadd, 1) := by decide +kernel
theorem dL_law_794 : decode cL_law 794 = .ok (.iaload, 1) := by decide +kernel
theorem dL_law_795 : decode cL_law 795 = .ok (.invokevirtual 113, 3) := by decide +kernel
theorem dL_law_798 : decode cL_law 798 = .ok (.if_icmp .eq 157, 3) := by decide +kernel
theorem dL_law_801 : decode cL_law 801 = .ok (.iconst 0, 1) := by decide +kernel
theorem dL_law_802 : decode cL_law 802 = .ok (.ireturn, 1) := by decide +kernel
theorem dL_law_803 : decode cL_law 803 = .ok (.aload_n 1, 1) := by decide +kernel
theorem dL_law_804 : decode cL_law 804 = .ok (.aload_n 0, 1) := by decide +kernel
theorem dL_law_805 : decode cL_law 805 = .ok (.iload_n 3, 1) := by decide +kernel
theorem dL_law_806 : decode cL_law 806 = .ok (.iconst 1, 1) := by decide +kernel
theorem dL_law_807 : decode cL_law 807 = .ok (.iadd, 1) := by decide +kernel
theorem dL_law_808 : decode cL_law 808 = .ok (.iaload, 1) := by decide +kernel
theorem dL_law_809 : decode cL_law 809 = .ok (.invokevirtual 114, 3) := by decide +kernel
theorem dL_law_812 : decode cL_law 812 = .ok (.aload_n 2, 1) := by decide +kernel
theorem dL_law_813 : decode cL_law 813 = .ok (.aload_n 0, 1) := by decide +kernel
theorem dL_law_814 : decode cL_law 814 = .ok (.iload_n 3, 1) := by decide +kernel
theorem dL_law_815 : decode cL_law 815 = .ok (.iconst 1, 1) := by decide +kernel
theorem dL_law_816 : decode cL_law 816 = .ok (.iadd, 1) := by decide +kernel
theorem dL_law_817 : decode cL_law 817 = .ok (.iaload, 1) := by decide +kernel
theorem dL_law_818 : decode cL_law 818 = .ok (.invokevirtual 117, 3) := by decide +kernel
theorem dL_law_821 : decode cL_law 821 = .ok (.if_icmp .eq 134, 3) := by decide +kernel
theorem dL_law_824 : decode cL_law 824 = .ok (.iconst 0, 1) := by decide +kernel
theorem dL_law_825 : decode cL_law 825 = .ok (.ireturn, 1) := by decide +kernel
theorem dL_law_826 : decode cL_law 826 = .ok (.aload_n 1, 1) := by decide +kernel
theorem dL_law_827 : decode cL_law 827 = .ok (.aload_n 0, 1) := by decide +kernel
theorem dL_law_828 : decode cL_law 828 = .ok (.iload_n 3, 1) := by decide +kernel
theorem dL_law_829 : decode cL_law 829 = .ok (.iconst 1, 1) := by decide +kernel
theorem dL_law_830 : decode cL_law 830 = .ok (.iadd, 1) := by decide +kernel
theorem dL_law_831 : decode cL_law 831 = .ok (.iaload, 1) := by decide +kernel
theorem dL_law_832 : decode cL_law 832 = .ok (.invokevirtual 118, 3) := by decide +kernel
theorem dL_law_835 : decode cL_law 835 = .ok (.aload_n 2, 1) := by decide +kernel
theorem dL_law_836 : decode cL_law 836 = .ok (.aload_n 0, 1) := by decide +kernel
theorem dL_law_837 : decode cL_law 837 = .ok (.iload_n 3, 1) := by decide +kernel
theorem dL_law_838 : decode cL_law 838 = .ok (.iconst 1, 1) := by decide +kernel
theorem dL_law_839 : decode cL_law 839 = .ok (.iadd, 1) := by decide +kernel
theorem dL_law_840 : decode cL_law 840 = .ok (.iaload, 1) := by decide +kernel
theorem dL_law_841 : decode cL_law 841 = .ok (.invokevirtual 121, 3) := by decide +kernel
theorem dL_law_844 : decode cL_law 844 = .ok (.if_icmp .eq 111, 3) := by decide +kernel
theorem dL_law_847 : decode cL_law 847 = .ok (.iconst 0, 1) := by decide +kernel
theorem dL_law_848 : decode cL_law 848 = .ok (.ireturn, 1) := by decide +kernel
theorem dL_law_849 : decode cL_law 849 = .ok (.aload_n 1, 1) := by decide +kernel
theorem dL_law_850 : decode cL_law 850 = .ok (.aload_n 0, 1) := by decide +kernel
theorem dL_law_851 : decode cL_law 851 = .ok (.iload_n 3, 1) := by decide +kernel
theorem dL_law_852 : decode cL_law 852 = .ok (.iconst 1, 1) := by decide +kernel
theorem dL_law_853 : decode cL_law 853 = .ok (.iadd, 1) := by decide +kernel
theorem dL_law_854 : decode cL_law 854 = .ok (.iaload, 1) := by decide +kernel
theorem dL_law_855 : decode cL_law 855 = .ok (.invokevirtual 122, 3) := by decide +kernel
theorem dL_law_858 : decode cL_law 858 = .ok (.aload_n 2, 1) := by decide +kernel
theorem dL_law_859 : decode cL_law 859 = .ok (.aload_n 0, 1) := by decide +kernel
theorem dL_law_860 : decode cL_law 860 = .ok (.iload_n 3, 1) := by decide +kernel
theorem dL_law_861 : decode cL_law 861 = .ok (.iconst 1, 1) := by decide +kernel
theorem dL_law_862 : decode cL_law 862 = .ok (.iadd, 1) := by decide +kernel
theorem dL_law_863 : decode cL_law 863 = .ok (.iaload, 1) := by decide +kernel
theorem dL_law_864 : decode cL_law 864 = .ok (.invokevirtual 125, 3) := by decide +kernel
theorem dL_law_867 : decode cL_law 867 = .ok (.if_icmp .eq 88, 3) := by decide +kernel
theorem dL_law_870 : decode cL_law 870 = .ok (.iconst 0, 1) := by decide +kernel
theorem dL_law_871 : decode cL_law 871 = .ok (.ireturn, 1) := by decide +kernel
theorem dL_law_872 : decode cL_law 872 = .ok (.aload_n 1, 1) := by decide +kernel
theorem dL_law_873 : decode cL_law 873 = .ok (.aload_n 0, 1) := by decide +kernel
theorem dL_law_874 : decode cL_law 874 = .ok (.iload_n 3, 1) := by decide +kernel
theorem dL_law_875 : decode cL_law 875 = .ok (.iconst 1, 1) := by decide +kernel
theorem dL_law_876 : decode cL_law 876 = .ok (.iadd, 1) := by decide +kernel
theorem dL_law_877 : decode cL_law 877 = .ok (.iaload, 1) := by decide +kernel
theorem dL_law_878 : decode cL_law 878 = .ok (.invokevirtual 126, 3) := by decide +kernel
theorem dL_law_881 : decode cL_law 881 = .ok (.aload_n 2, 1) := by decide +kernel
theorem dL_law_882 : decode cL_law 882 = .ok (.aload_n 0, 1) := by decide +kernel
theorem dL_law_883 : decode cL_law 883 = .ok (.iload_n 3, 1) := by decide +kernel
theorem dL_law_884 : decode cL_law 884 = .ok (.iconst 1, 1) := by decide +kernel
theorem dL_law_885 : decode cL_law 885 = .ok (.iadd, 1) := by decide +kernel
theorem dL_law_886 : decode cL_law 886 = .ok (.iaload, 1) := by decide +kernel
theorem dL_law_887 : decode cL_law 887 = .ok (.invokevirtual 129, 3) := by decide +kernel
theorem dL_law_890 : decode cL_law 890 = .ok (.if_icmp .eq 65, 3) := by decide +kernel
theorem dL_law_893 : decode cL_law 893 = .ok (.iconst 0, 1) := by decide +kernel
theorem dL_law_894 : decode cL_law 894 = .ok (.ireturn, 1) := by decide +kernel
theorem dL_law_895 : decode cL_law 895 = .ok (.aload_n 1, 1) := by decide +kernel
theorem dL_law_896 : decode cL_law 896 = .ok (.aload_n 0, 1) := by decide +kernel
theorem dL_law_897 : decode cL_law 897 = .ok (.iload_n 3, 1) := by decide +kernel
theorem dL_law_898 : decode cL_law 898 = .ok (.iconst 1, 1) := by decide +kernel
theorem dL_law_899 : decode cL_law 899 = .ok (.iadd, 1) := by decide +kernel
theorem dL_law_900 : decode cL_law 900 = .ok (.iaload, 1) := by decide +kernel
theorem dL_law_901 : decode cL_law 901 = .ok (.invokevirtual 130, 3) := by decide +kernel
theorem dL_law_904 : decode cL_law 904 = .ok (.aload_n 2, 1) := by decide +kernel
theorem dL_law_905 : decode cL_law 905 = .ok (.aload_n 0, 1) := by decide +kernel
theorem dL_law_906 : decode cL_law 906 = .ok (.iload_n 3, 1) := by decide +kernel
theorem dL_law_907 : decode cL_law 907 = .ok (.iconst 1, 1) := by decide +kernel
theorem dL_law_908 : decode cL_law 908 = .ok (.iadd, 1) := by decide +kernel
theorem dL_law_909 : decode cL_law 909 = .ok (.iaload, 1) := by decide +kernel
theorem dL_law_910 : decode cL_law 910 = .ok (.invokevirtual 133, 3) := by decide +kernel
theorem dL_law_913 : decode cL_law 913 = .ok (.if_icmp .eq 42, 3) := by decide +kernel
theorem dL_law_916 : decode cL_law 916 = .ok (.iconst 0, 1) := by decide +kernel
theorem dL_law_917 : decode cL_law 917 = .ok (.ireturn, 1) := by decide +kernel
theorem dL_law_918 : decode cL_law 918 = .ok (.aload_n 1, 1) := by decide +kernel
theorem dL_law_919 : decode cL_law 919 = .ok (.aload_n 0, 1) := by decide +kernel
theorem dL_law_920 : decode cL_law 920 = .ok (.iload_n 3, 1) := by decide +kernel
theorem dL_law_921 : decode cL_law 921 = .ok (.iconst 1, 1) := by decide +kernel
theorem dL_law_922 : decode cL_law 922 = .ok (.iadd, 1) := by decide +kernel
theorem dL_law_923 : decode cL_law 923 = .ok (.iaload, 1) := by decide +kernel
theorem dL_law_924 : decode cL_law 924 = .ok (.invokevirtual 134, 3) := by decide +kernel
theorem dL_law_927 : decode cL_law 927 = .ok (.aload_n 2, 1) := by decide +kernel
theorem dL_law_928 : decode cL_law 928 = .ok (.aload_n 0, 1) := by decide +kernel
theorem dL_law_929 : decode cL_law 929 = .ok (.iload_n 3, 1) := by decide +kernel
theorem dL_law_930 : decode cL_law 930 = .ok (.iconst 1, 1) := by decide +kernel
theorem dL_law_931 : decode cL_law 931 = .ok (.iadd, 1) := by decide +kernel
theorem dL_law_932 : decode cL_law 932 = .ok (.iaload, 1) := by decide +kernel
theorem dL_law_933 : decode cL_law 933 = .ok (.invokevirtual 137, 3) := by decide +kernel
theorem dL_law_936 : decode cL_law 936 = .ok (.if_icmp .eq 19, 3) := by decide +kernel
theorem dL_law_939 : decode cL_law 939 = .ok (.iconst 0, 1) := by decide +kernel
theorem dL_law_940 : decode cL_law 940 = .ok (.ireturn, 1) := by decide +kernel
theorem dL_law_941 : decode cL_law 941 = .ok (.aload_n 1, 1) := by decide +kernel
theorem dL_law_942 : decode cL_law 942 = .ok (.invokevirtual 138, 3) := by decide +kernel
theorem dL_law_945 : decode cL_law 945 = .ok (.aload_n 2, 1) := by decide +kernel
theorem dL_law_946 : decode cL_law 946 = .ok (.invokevirtual 142, 3) := by decide +kernel
theorem dL_law_949 : decode cL_law 949 = .ok (.lcmp, 1) := by decide +kernel
theorem dL_law_950 : decode cL_law 950 = .ok (.ifCond .eq 5, 3) := by decide +kernel
theorem dL_law_953 : decode cL_law 953 = .ok (.iconst 0, 1) := by decide +kernel
theorem dL_law_954 : decode cL_law 954 = .ok (.ireturn, 1) := by decide +kernel
theorem dL_law_955 : decode cL_law 955 = .ok (.iinc 3 5, 3) := by decide +kernel
theorem dL_law_958 : decode cL_law 958 = .ok (.goto (-940), 3) := by decide +kernel
theorem dL_law_961 : decode cL_law 961 = .ok (.iconst 1, 1) := by decide +kernel
theorem dL_law_962 : decode cL_law 962 = .ok (.ireturn, 1) := by decide +kernel
end
section
/-! ===== rules in the shapes that the walks use ===== -/
abbrev rm (d : Nat) : Room := { frames := d, cells := 0, slots := 0, locals := 32 * d }
def pR (v : Value) (n : Nat) (w : vWd) : vPost := fun r n' w' => r = some v ∧ n' = n ∧ w' = w
def pI (P : Int → vWd → Prop) (n : Nat) : vPost := fun r n' w' => ∃ z : Int, r = some (vI z) ∧ n' = n ∧ P z w'
def pV (P : vWd → Prop) (n : Nat) : vPost := fun r n' w' => r = none ∧ n' = n ∧ P w'
def pC (P : Nat → vWd → Prop) : vPost := fun r n' w' => r = none ∧ P n' w'
def bI (p : Prop) [Decidable p] : Int := if p then 1 else 0
theorem bI_t {p : Prop} [Decidable p] (h : p) : bI p = 1 := if_pos h
theorem bI_f {p : Prop} [Decidable p] (h : ¬ p) : bI p = 0 := if_neg h
theorem bI_R (p : Prop) [Decidable p] : inR (bI p) := by unfold bI; split <;> exact ⟨by decide, by decide⟩
theorem bI_01 (p : Prop) [Decidable p] : bI p = 0 ∨ bI p = 1 := by unfold bI; split <;> simp
theorem bI_eq {p q : Prop} [Decidable p] [Decidable q] (h : p ↔ q) : bI p = bI q := by unfold bI; simp [h]
theorem pR_of {v v' : Value} {n : Nat} {w : vWd} (h : v' = v) : pR v n w (some v') n w := ⟨by rw [h], rfl, rfl⟩
theorem pR_I {z z' : Int} {n : Nat} {w : vWd} (h : z' = z) : pR (vI z) n w (some (vI z')) n w := ⟨by rw [h], rfl, rfl⟩
theorem pI_of {P : Int → vWd → Prop} {z : Int} {n : Nat} {w : vWd} (h : P z w) : pI P n (some (vI z)) n w := ⟨z, rfl, rfl, h⟩
theorem pV_of {P : vWd → Prop} {n : Nat} {w : vWd} (h : P w) : pV P n none n w := ⟨rfl, rfl, h⟩
theorem Ctr.mono {Y : vMeth} {R : Room} {av : List Value} {n : Nat} {w : vWd} {Q Q' : vPost} (h : Ctr Y R av n w Q) (hq : ∀ r n' w', Q r n' w' → Q' r n' w') : Ctr Y R av n w Q' := by
  intro l b sa cA D
  have h1 := h l b sa cA D
  intro p e ha hc hk s m args below hf happ hpre htriv
  obtain ⟨t, o, a1, b1, b2, ⟨⟨r, n', w', e1, e2, e3⟩, hF⟩, b4⟩ := h1 p e ha hc hk s m args below hf happ hpre htriv
  exact ⟨t, o, a1, b1, b2, ⟨⟨r, n', w', e1, hq r n' w' e2, e3⟩, hF⟩, b4⟩
section VD
variable {Y : vMeth} {R : Room} {Q : vPost} {pc : Nat} {lv : vLs} {st : List Value} {n : Nat} {w : vWd} {kc ks : Nat} {Y2 : vMeth} {As rest : List Value} {N idx a d : Nat}
theorem V_vR {ci : Nat} {fs : List Value} {q : vw_C} {v : Value} (hd : decode Y.2.1 pc = .ok (.invokevirtual idx, 3)) (hM : okM Y2 N) (hV : okV Y2) (hL : okL Y.1.cls idx Y2) (hC : Ctr Y2 (rm d) (.ref a :: As) n w (pR v n w)) (hw0 : w a = some (.inr (ci, fs))) (hq : vwCl[ci]? = some q) (hq1 : q.1 = Y2.1.cls) (hn : As.length = N) (hst : As.reverse ++ .ref a :: rest = st) (hR : rmOK R Y2 (rm d) kc ks rest = true)
    (kk : V Y R Q (pc + 3) lv (v :: rest) n w kc ks) : V Y R Q pc lv st n w kc ks :=
  V_callV hd hM hV hL hC hw0 hq hq1 hn hst hR (fun r n' w' h => by obtain ⟨rfl, rfl, rfl⟩ := h; exact kk)
theorem V_vI {ci : Nat} {fs : List Value} {q : vw_C} {P : Int → vWd → Prop} (hd : decode Y.2.1 pc = .ok (.invokevirtual idx, 3)) (hM : okM Y2 N) (hV : okV Y2) (hL : okL Y.1.cls idx Y2) (hC : Ctr Y2 (rm d) (.ref a :: As) n w (pI P n)) (hw0 : w a = some (.inr (ci, fs))) (hq : vwCl[ci]? = some q) (hq1 : q.1 = Y2.1.cls) (hn : As.length = N) (hst : As.reverse ++ .ref a :: rest = st) (hR : rmOK R Y2 (rm d) kc ks rest = true)
    (kk : ∀ (z : Int) (w' : vWd), P z w' → V Y R Q (pc + 3) lv (vI z :: rest) n w' kc ks) : V Y R Q pc lv st n w kc ks :=
  V_callV hd hM hV hL hC hw0 hq hq1 hn hst hR (fun r n' w' h => by obtain ⟨z, rfl, rfl, h⟩ := h; exact kk z w' h)
theorem V_vV {ci : Nat} {fs : List Value} {q : vw_C} {P : vWd → Prop} (hd : decode Y.2.1 pc = .ok (.invokevirtual idx, 3)) (hM : okM Y2 N) (hV : okV Y2) (hL : okL Y.1.cls idx Y2) (hC : Ctr Y2 (rm d) (.ref a :: As) n w (pV P n)) (hw0 : w a = some (.inr (ci, fs))) (hq : vwCl[ci]? = some q) (hq1 : q.1 = Y2.1.cls) (hn : As.length = N) (hst : As.reverse ++ .ref a :: rest = st) (hR : rmOK R Y2 (rm d) kc ks rest = true)
    (kk : ∀ (w' : vWd), P w' → V Y R Q (pc + 3) lv rest n w' kc ks) : V Y R Q pc lv st n w kc ks :=
  V_callV hd hM hV hL hC hw0 hq hq1 hn hst hR (fun r n' w' h => by obtain ⟨rfl, rfl, h⟩ := h; exact kk w' h)
theorem V_sR {v : Value} (hd : decode Y.2.1 pc = .ok (.invokestatic idx, 3)) (hM : okM Y2 N) (hV : Cond.static Y2.1 ∈ vU) (hL : okL Y.1.cls idx Y2) (hC : Ctr Y2 (rm d) As n w (pR v n w)) (hn : As.length = N) (hst : As.reverse ++ rest = st) (hR : rmOK R Y2 (rm d) kc ks rest = true)
    (kk : V Y R Q (pc + 3) lv (v :: rest) n w kc ks) : V Y R Q pc lv st n w kc ks :=
  V_callS hd hM hV hL hC hn hst hR (fun r n' w' h => by obtain ⟨rfl, rfl, rfl⟩ := h; exact kk)
theorem V_cV {R2 : Room} {P : Nat → vWd → Prop} (hd : decode Y.2.1 pc = .ok (.invokespecial idx, 3)) (hM : okM Y2 N) (hV : Cond.instanceMethod Y2.1 ∈ vU) (hret : Y2.2.2.2 = none) (hnm : Y2.1.name = "<init>") (hL : okL Y.1.cls idx Y2) (hC : Ctr Y2 R2 (.ref a :: As) n w (pC P)) (hn : As.length = N) (hst : As.reverse ++ .ref a :: rest = st) (hR : rmOK R Y2 R2 kc ks rest = true)
    (kk : ∀ (n' : Nat) (w' : vWd), P n' w' → V Y R Q (pc + 3) lv rest n' w' (kc + R2.cells) (ks + R2.slots)) : V Y R Q pc lv st n w kc ks :=
  V_callI hd hM hV hret hnm hL hC hn hst hR (fun r n' w' h => by obtain ⟨rfl, h⟩ := h; exact kk n' w' h)
theorem V_putiW {ci k : Nat} {fs : List Value} {x : Int32} (hd : decode Y.2.1 pc = .ok (.putfield idx, 3)) (hf : FL Y.1.cls idx ci k .int false) (hw0 : w a = some (.inr (ci, fs))) (hlen : k < fs.length) (kk : ∀ w' : vWd, w' a = some (.inr (ci, fs.set k (.int x))) → (∀ j, j ≠ a → w' j = w j) → V Y R Q (pc + 3) lv st n w' kc ks) : V Y R Q pc lv (.int x :: .ref a :: st) n w kc ks :=
  V_puti hd hf hw0 hlen (kk _ (va_up_self _ _ _) (fun _ h => va_up_ne _ _ h))
theorem V_putzW {ci k : Nat} {fs : List Value} {x : Int32} (hd : decode Y.2.1 pc = .ok (.putfield idx, 3)) (hf : FL Y.1.cls idx ci k .boolean false) (hw0 : w a = some (.inr (ci, fs))) (hx : x = 0 ∨ x = 1) (hlen : k < fs.length) (kk : ∀ w' : vWd, w' a = some (.inr (ci, fs.set k (.int x))) → (∀ j, j ≠ a → w' j = w j) → V Y R Q (pc + 3) lv st n w' kc ks) : V Y R Q pc lv (.int x :: .ref a :: st) n w kc ks :=
  V_putz hd hf hw0 hx hlen (kk _ (va_up_self _ _ _) (fun _ h => va_up_ne _ _ h))
theorem V_putFW {ci k a' : Nat} {ty : FieldType} {fs : List Value} (hd : decode Y.2.1 pc = .ok (.putfield idx, 3)) (hf : FL Y.1.cls idx ci k ty true) (hw0 : w a = some (.inr (ci, fs))) (hini : Y.1.name = "<init>") (hcls : ∃ q, vwCl[ci]? = some q ∧ q.1 = Y.1.cls) (hlk0 : ∀ C T N, vwCl[ci]? = some (C, T, N) → Cond.fieldLink Y.1.cls idx C (T k).2.1 (T k).2.2.1 ∈ vU) (hn : ∀ q : Nat, narrow ty (.ref q) = .ref q ∧ fits ty (.ref q) = true) (hlen : k < fs.length) (kk : ∀ w' : vWd, w' a = some (.inr (ci, fs.set k (.ref a'))) → (∀ j, j ≠ a → w' j = w j) → V Y R Q (pc + 3) lv st n w' kc ks) : V Y R Q pc lv (.ref a' :: .ref a :: st) n w kc ks :=
  V_putF hd hf hw0 hini hcls hlk0 hn hlen (kk _ (va_up_self _ _ _) (fun _ h => va_up_ne _ _ h))
theorem V_iastW {N : Nat} {f : Nat → Int} {j z : Int} (hd : decode Y.2.1 pc = .ok (.iastore, 1)) (hw0 : w a = some (arI N f)) (hj : 0 ≤ j ∧ j < N) (hN : N < 2147483648) (kk : ∀ w' : vWd, w' a = some (arI N (va_up f j.toNat z)) → (∀ i, i ≠ a → w' i = w i) → V Y R Q (pc + 1) lv st n w' kc ks) : V Y R Q pc lv (vI z :: vI j :: .ref a :: st) n w kc ks :=
  V_iast hd hw0 hj hN (kk _ (va_up_self _ _ _) (fun _ h => va_up_ne _ _ h))
theorem V_zastW {N : Nat} {f : Nat → Int} {j z : Int} (hd : decode Y.2.1 pc = .ok (.bastore, 1)) (hw0 : w a = some (arZ N f)) (hj : 0 ≤ j ∧ j < N) (hN : N < 2147483648) (hz : z = 0 ∨ z = 1) (kk : ∀ w' : vWd, w' a = some (arZ N (va_up f j.toNat z)) → (∀ i, i ≠ a → w' i = w i) → V Y R Q (pc + 1) lv st n w' kc ks) : V Y R Q pc lv (vI z :: vI j :: .ref a :: st) n w kc ks :=
  V_zast hd hw0 hj hN hz (kk _ (va_up_self _ _ _) (fun _ h => va_up_ne _ _ h))
theorem V_if_eqB {p : Prop} [Decidable p] {off : Int} {tgt : Nat} (hd : decode Y.2.1 pc = .ok (.ifCond .eq off, 3)) (ht : (pc : Int) + off = (tgt : Int)) (kt : ¬ p → V Y R Q tgt lv st n w kc ks) (kf : p → V Y R Q (pc + 3) lv st n w kc ks) : V Y R Q pc lv (vI (bI p) :: st) n w kc ks :=
  V_if_eq hd ht (bI_R p) (fun h => kt (fun hp => by rw [bI_t hp] at h; cases h)) (fun h => kf (Decidable.byContradiction fun hp => h (bI_f hp)))
theorem V_if_neB {p : Prop} [Decidable p] {off : Int} {tgt : Nat} (hd : decode Y.2.1 pc = .ok (.ifCond .ne off, 3)) (ht : (pc : Int) + off = (tgt : Int)) (kt : p → V Y R Q tgt lv st n w kc ks) (kf : ¬ p → V Y R Q (pc + 3) lv st n w kc ks) : V Y R Q pc lv (vI (bI p) :: st) n w kc ks :=
  V_if_ne hd ht (bI_R p) (fun h => kt (Decidable.byContradiction fun hp => h (bI_f hp))) (fun h => kf (fun hp => by rw [bI_t hp] at h; cases h))
end VD
/-- a contract of a member of a class of the JDK that the machine itself has no entry for -/
theorem Ctr_ofF {Y : vMeth} {R : Room} {av : List Value} {n : Nat} {w : vWd} {Q : vPost} {lv : vLs} (hy : plainFor Y.1 = true) (hlv : avL av ++ List.replicate (Y.2.2.1 - (avL av).length) none = lv) (hle : Nat.ble (avL av).length Y.2.2.1 = true) (k : V Y R Q 0 lv [] n w 0 0) : Ctr Y R av n w Q := by
  intro l b sa cA D
  refine va_MetF (cc := Y.2.1) (maxL := Y.2.2.1) (ret := Y.2.2.2) hy rfl ?_
  intro p e s m args below meth c s₁ B hml hv
  obtain ⟨rfl, hO, hK, hSt, hN⟩ := hv
  have hts := atoms_spec (ws := Cond.code Y.1 Y.2.1 Y.2.2.1 Y.2.2.2 :: vU) B.pre
  rw [lg_entry_eq]
  refine k p l e s m _ below meth c b sa cA D s.heap [] _ ⟨B.exec, B.bytes, B.returns, hml, findClass_of_methodNamed B.named, fun w hw => hts w (List.mem_cons_of_mem _ hw), (name_of_methodNamed B.named B.method).1, B.notSynchronized, hK, hSt, hN⟩ hO va_S.rf (by rw [hO.1]; omega) ?_
  have hl := lv_entry (av.map (cvV b sa)) (n := Y.2.2.1) (by rw [lgsl_len]; exact Nat.le_of_ble_eq_true hle)
  refine ⟨hl.1, hl.2.1, fun i v hi => ?_⟩
  rw [← hlv] at hi
  by_cases hlt : i < (avL av).length
  · rw [List.getElem?_append_left hlt] at hi
    have := avL_args (b := b) (sa := sa) av 0 i v hi
    rw [Nat.zero_add] at this
    exact hl.2.2 _ this
  · rw [List.getElem?_append_right (by omega)] at hi
    have := List.eq_of_mem_replicate (List.mem_of_getElem? hi)
    cases this
end
section
/-! ===== DrawerWall$Row: a list of numbers in a row of fixed room ===== -/
def RowAt (w : vWd) (k cap : Nat) (l : List Int) : Prop := ∃ f : Nat → Int, w k = some (.inr (2, [.ref (k + 1), vI l.length])) ∧ w (k + 1) = some (arI cap f) ∧ l.length ≤ cap ∧ cap ≤ 20000 ∧ ∀ i, i < l.length → f i = l.getD i 0
def fr2 (k : Nat) (w w' : vWd) : Prop := ∀ j, j ≠ k → j ≠ k + 1 → w' j = w j
theorem RowAt.keep {w w' : vWd} {k cap : Nat} {l : List Int} (h : RowAt w k cap l) (h1 : w' k = w k) (h2 : w' (k + 1) = w (k + 1)) : RowAt w' k cap l := by
  obtain ⟨f, a, b, c⟩ := h
  exact ⟨f, h1.trans a, h2.trans b, c⟩
theorem RowAt.fr {w w' : vWd} {k cap k2 : Nat} {l : List Int} (h : RowAt w k cap l) (hf : fr2 k2 w w') (h1 : k ≠ k2 ∧ k ≠ k2 + 1 ∧ k + 1 ≠ k2) : RowAt w' k cap l :=
  h.keep (hf _ h1.1 h1.2.1) (hf _ h1.2.2 (by omega))
theorem RowAt.len {w : vWd} {k cap : Nat} {l : List Int} (h : RowAt w k cap l) : l.length ≤ cap ∧ cap ≤ 20000 := by
  obtain ⟨f, a, b, c, d, -⟩ := h
  exact ⟨c, d⟩
theorem RowAt.obj {w : vWd} {k cap : Nat} {l : List Int} (h : RowAt w k cap l) : w k = some (.inr (2, [.ref (k + 1), vI l.length])) := by
  obtain ⟨f, a, -⟩ := h
  exact a
theorem fr2.refl (k : Nat) (w : vWd) : fr2 k w w := fun _ _ _ => rfl
theorem fr2.trans {k : Nat} {w w' w2 : vWd} (h : fr2 k w w') (h2 : fr2 k w' w2) : fr2 k w w2 := fun j a b => (h2 j a b).trans (h j a b)
def rAt (l : List Int) (i : Int) : Int := if 0 ≤ i then l.getD i.toNat 0 else 0
theorem rAt_in {l : List Int} {i : Int} (h : 0 ≤ i) : rAt l i = l.getD i.toNat 0 := if_pos h
theorem rAt_out {l : List Int} {i : Int} (h : i < 0 ∨ l.length ≤ i) : rAt l i = 0 := by
  unfold rAt
  split
  · rw [List.getD_eq_getElem?_getD, List.getElem?_eq_none (by omega)]; rfl
  · rfl
def rSet (l : List Int) (i v : Int) : List Int := if 0 ≤ i then l.set i.toNat v else l
def rAdd (cap : Nat) (l : List Int) (v : Int) : List Int := if l.length < cap then l ++ [v] else l
theorem rSet_out {l : List Int} {i v : Int} (h : i < 0 ∨ l.length ≤ i) : rSet l i v = l := by
  unfold rSet
  split
  · exact List.set_eq_of_length_le (by omega)
  · rfl
theorem rSet_len (l : List Int) (i v : Int) : (rSet l i v).length = l.length := by
  unfold rSet; split <;> simp
theorem rAdd_take {cap : Nat} {l : List Int} {i : Int} (h0 : 0 ≤ i) (h1 : i < l.length) : rAdd cap ((l.take i.toNat).take cap) (rAt l i) = (l.take (i + 1).toNat).take cap := by
  rw [rAt_in h0, show (i + 1).toNat = i.toNat + 1 by omega, List.take_succ, rAdd]
  have h2 : i.toNat < l.length := by omega
  rw [List.getElem?_eq_getElem h2]
  simp only [Option.toList_some, List.length_take]
  split
  · rename_i hc
    rw [List.take_append, List.getD_eq_getElem?_getD, List.getElem?_eq_getElem h2]
    have h3 : (l.take i.toNat).length = i.toNat := by rw [List.length_take]; omega
    rw [h3, show cap - i.toNat = (cap - i.toNat - 1) + 1 by omega]
    simp
  · rename_i hc
    rw [List.take_append_of_le_length]
    rw [List.length_take]; omega
set_option maxRecDepth 100000 in
theorem c_max {n : Nat} {w : vWd} {a b : Int} (ha : inR a) (hb : inR b) : Ctr mJ9_max_7cf53 (rm 0) [vI a, vI b] n w (pR (vI (max a b)) n w) := by
  refine Ctr_ofF (lv := [some (vI a), some (vI b)]) (by decide +kernel) rfl rfl ?_
  refine V_iload_n (Y := mJ9_max_7cf53) (pc := 0) dJ9_max_7cf53_0 rfl ?_
  refine V_iload_n (Y := mJ9_max_7cf53) (pc := 1) dJ9_max_7cf53_1 rfl ?_
  refine V_icmp_lt (tgt := 9) (Y := mJ9_max_7cf53) (pc := 2) dJ9_max_7cf53_2 (by decide) ⟨by omega, by omega⟩ ⟨by omega, by omega⟩ (fun h_2 => ?_) (fun h_2 => ?_)
  · refine V_iload_n (Y := mJ9_max_7cf53) (pc := 9) dJ9_max_7cf53_9 rfl ?_
    refine V_iret (Y := mJ9_max_7cf53) (pc := 10) dJ9_max_7cf53_10 rfl (Nat.le_of_ble_eq_true rfl) (Nat.le_of_ble_eq_true rfl) ?_
    exact pR_I (by omega)
  · refine V_iload_n (Y := mJ9_max_7cf53) (pc := 5) dJ9_max_7cf53_5 rfl ?_
    refine V_goto (tgt := 10) (Y := mJ9_max_7cf53) (pc := 6) dJ9_max_7cf53_6 (by decide) ?_
    refine V_iret (Y := mJ9_max_7cf53) (pc := 10) dJ9_max_7cf53_10 rfl (Nat.le_of_ble_eq_true rfl) (Nat.le_of_ble_eq_true rfl) ?_
    exact pR_I (by omega)
set_option maxRecDepth 100000 in
theorem c_min {n : Nat} {w : vWd} {a b : Int} (ha : inR a) (hb : inR b) : Ctr mJ9_min_7cf53 (rm 0) [vI a, vI b] n w (pR (vI (min a b)) n w) := by
  refine Ctr_ofF (lv := [some (vI a), some (vI b)]) (by decide +kernel) rfl rfl ?_
  refine V_iload_n (Y := mJ9_min_7cf53) (pc := 0) dJ9_min_7cf53_0 rfl ?_
  refine V_iload_n (Y := mJ9_min_7cf53) (pc := 1) dJ9_min_7cf53_1 rfl ?_
  refine V_icmp_gt (tgt := 9) (Y := mJ9_min_7cf53) (pc := 2) dJ9_min_7cf53_2 (by decide) ⟨by omega, by omega⟩ ⟨by omega, by omega⟩ (fun h_2 => ?_) (fun h_2 => ?_)
  · refine V_iload_n (Y := mJ9_min_7cf53) (pc := 9) dJ9_min_7cf53_9 rfl ?_
    refine V_iret (Y := mJ9_min_7cf53) (pc := 10) dJ9_min_7cf53_10 rfl (Nat.le_of_ble_eq_true rfl) (Nat.le_of_ble_eq_true rfl) ?_
    exact pR_I (by omega)
  · refine V_iload_n (Y := mJ9_min_7cf53) (pc := 5) dJ9_min_7cf53_5 rfl ?_
    refine V_goto (tgt := 10) (Y := mJ9_min_7cf53) (pc := 6) dJ9_min_7cf53_6 (by decide) ?_
    refine V_iret (Y := mJ9_min_7cf53) (pc := 10) dJ9_min_7cf53_10 rfl (Nat.le_of_ble_eq_true rfl) (Nat.le_of_ble_eq_true rfl) ?_
    exact pR_I (by omega)
set_option maxRecDepth 100000 in
theorem c_Row_size {n : Nat} {w : vWd} {k cap : Nat} {l : List Int} (h : RowAt w k cap l) : Ctr mX2_size (rm 0) [.ref k] n w (pR (vI l.length) n w) := by
  obtain ⟨f, h1, h2, h3, h4, h5⟩ := h
  refine Ctr_of (lv := [some (.ref k)]) (by decide +kernel) rfl rfl ?_
  refine V_aload_n (Y := mX2_size) (pc := 0) dX2_size_0 rfl ?_
  apply V_get (Y := mX2_size) (pc := 1) dX2_size_1 fl_X2_7
  · assumption
  · rfl
  refine V_iret (Y := mX2_size) (pc := 4) dX2_size_4 rfl (Nat.le_of_ble_eq_true rfl) (Nat.le_of_ble_eq_true rfl) ?_
  exact pR_I rfl
set_option maxRecDepth 100000 in
theorem c_Row_isFull {n : Nat} {w : vWd} {k cap : Nat} {l : List Int} (h : RowAt w k cap l) : Ctr mX2_isFull (rm 0) [.ref k] n w (pR (vI (bI ((cap : Int) ≤ l.length))) n w) := by
  obtain ⟨f, h1, h2, h3, h4, h5⟩ := h
  refine Ctr_of (lv := [some (.ref k)]) (by decide +kernel) rfl rfl ?_
  refine V_aload_n (Y := mX2_isFull) (pc := 0) dX2_isFull_0 rfl ?_
  apply V_get (Y := mX2_isFull) (pc := 1) dX2_isFull_1 fl_X2_7
  · assumption
  · rfl
  refine V_aload_n (Y := mX2_isFull) (pc := 4) dX2_isFull_4 rfl ?_
  apply V_get (Y := mX2_isFull) (pc := 5) dX2_isFull_5 fl_X2_19
  · assumption
  · rfl
  apply V_alen (Y := mX2_isFull) (pc := 8) dX2_isFull_8
  · assumption
  refine V_icmp_lt (tgt := 16) (Y := mX2_isFull) (pc := 9) dX2_isFull_9 (by decide) ⟨by omega, by omega⟩ ⟨by omega, by omega⟩ (fun h_9 => ?_) (fun h_9 => ?_)
  · refine V_iconst (Y := mX2_isFull) (pc := 16) dX2_isFull_16 ?_
    refine V_zret (ty := .boolean) (Y := mX2_isFull) (pc := 17) dX2_isFull_17 rfl rfl (Nat.le_of_ble_eq_true rfl) (Nat.le_of_ble_eq_true rfl) ?_
    first | exact pR_I (bI_t (by omega)).symm | exact pR_I (bI_f (by omega)).symm
  · refine V_iconst (Y := mX2_isFull) (pc := 12) dX2_isFull_12 ?_
    refine V_goto (tgt := 17) (Y := mX2_isFull) (pc := 13) dX2_isFull_13 (by decide) ?_
    refine V_zret (ty := .boolean) (Y := mX2_isFull) (pc := 17) dX2_isFull_17 rfl rfl (Nat.le_of_ble_eq_true rfl) (Nat.le_of_ble_eq_true rfl) ?_
    first | exact pR_I (bI_t (by omega)).symm | exact pR_I (bI_f (by omega)).symm
set_option maxRecDepth 100000 in
theorem c_Row_holds {n : Nat} {w : vWd} {k cap : Nat} {l : List Int} {i : Int} (h : RowAt w k cap l) (hi : inR i) : Ctr mX2_holds (rm 0) [.ref k, vI i] n w (pR (vI (bI (0 ≤ i ∧ i < l.length))) n w) := by
  obtain ⟨f, h1, h2, h3, h4, h5⟩ := h
  refine Ctr_of (lv := [some (.ref k), some (vI i)]) (by decide +kernel) rfl rfl ?_
  refine V_iload_n (Y := mX2_holds) (pc := 0) dX2_holds_0 rfl ?_
  refine V_if_lt (tgt := 25) (Y := mX2_holds) (pc := 1) dX2_holds_1 (by decide) ⟨by omega, by omega⟩ (fun h_1 => ?_) (fun h_1 => ?_)
  · refine V_iconst (Y := mX2_holds) (pc := 25) dX2_holds_25 ?_
    refine V_zret (ty := .boolean) (Y := mX2_holds) (pc := 26) dX2_holds_26 rfl rfl (Nat.le_of_ble_eq_true rfl) (Nat.le_of_ble_eq_true rfl) ?_
    first | exact pR_I (bI_t (by omega)).symm | exact pR_I (bI_f (by omega)).symm
  · refine V_iload_n (Y := mX2_holds) (pc := 4) dX2_holds_4 rfl ?_
    refine V_aload_n (Y := mX2_holds) (pc := 5) dX2_holds_5 rfl ?_
    apply V_get (Y := mX2_holds) (pc := 6) dX2_holds_6 fl_X2_7
    · assumption
    · rfl
    refine V_icmp_ge (tgt := 25) (Y := mX2_holds) (pc := 9) dX2_holds_9 (by decide) ⟨by omega, by omega⟩ ⟨by omega, by omega⟩ (fun h_9 => ?_) (fun h_9 => ?_)
    · refine V_iconst (Y := mX2_holds) (pc := 25) dX2_holds_25 ?_
      refine V_zret (ty := .boolean) (Y := mX2_holds) (pc := 26) dX2_holds_26 rfl rfl (Nat.le_of_ble_eq_true rfl) (Nat.le_of_ble_eq_true rfl) ?_
      first | exact pR_I (bI_t (by omega)).symm | exact pR_I (bI_f (by omega)).symm
    · refine V_iload_n (Y := mX2_holds) (pc := 12) dX2_holds_12 rfl ?_
      refine V_aload_n (Y := mX2_holds) (pc := 13) dX2_holds_13 rfl ?_
      apply V_get (Y := mX2_holds) (pc := 14) dX2_holds_14 fl_X2_19
      · assumption
      · rfl
      apply V_alen (Y := mX2_holds) (pc := 17) dX2_holds_17
      · assumption
      refine V_icmp_ge (tgt := 25) (Y := mX2_holds) (pc := 18) dX2_holds_18 (by decide) ⟨by omega, by omega⟩ ⟨by omega, by omega⟩ (fun h_18 => ?_) (fun h_18 => ?_)
      · refine V_iconst (Y := mX2_holds) (pc := 25) dX2_holds_25 ?_
        refine V_zret (ty := .boolean) (Y := mX2_holds) (pc := 26) dX2_holds_26 rfl rfl (Nat.le_of_ble_eq_true rfl) (Nat.le_of_ble_eq_true rfl) ?_
        first | exact pR_I (bI_t (by omega)).symm | exact pR_I (bI_f (by omega)).symm
      · refine V_iconst (Y := mX2_holds) (pc := 21) dX2_holds_21 ?_
        refine V_goto (tgt := 26) (Y := mX2_holds) (pc := 22) dX2_holds_22 (by decide) ?_
        refine V_zret (ty := .boolean) (Y := mX2_holds) (pc := 26) dX2_holds_26 rfl rfl (Nat.le_of_ble_eq_true rfl) (Nat.le_of_ble_eq_true rfl) ?_
        first | exact pR_I (bI_t (by omega)).symm | exact pR_I (bI_f (by omega)).symm
set_option maxRecDepth 100000 in
theorem c_Row_at {n : Nat} {w : vWd} {k cap : Nat} {l : List Int} {i : Int} (h : RowAt w k cap l) (hi : inR i) : Ctr mX2_at (rm 0) [.ref k, vI i] n w (pR (vI (rAt l i)) n w) := by
  obtain ⟨f, h1, h2, h3, h4, h5⟩ := h
  refine Ctr_of (lv := [some (.ref k), some (vI i)]) (by decide +kernel) rfl rfl ?_
  refine V_iload_n (Y := mX2_at) (pc := 0) dX2_at_0 rfl ?_
  refine V_if_lt (tgt := 30) (Y := mX2_at) (pc := 1) dX2_at_1 (by decide) ⟨by omega, by omega⟩ (fun h_1 => ?_) (fun h_1 => ?_)
  · refine V_iconst (Y := mX2_at) (pc := 30) dX2_at_30 ?_
    refine V_iret (Y := mX2_at) (pc := 31) dX2_at_31 rfl (Nat.le_of_ble_eq_true rfl) (Nat.le_of_ble_eq_true rfl) ?_
    exact pR_I (by first | (rw [rAt_in (by omega)]; exact h5 _ (by omega)) | rw [rAt_out (by omega)])
  · refine V_iload_n (Y := mX2_at) (pc := 4) dX2_at_4 rfl ?_
    refine V_aload_n (Y := mX2_at) (pc := 5) dX2_at_5 rfl ?_
    apply V_get (Y := mX2_at) (pc := 6) dX2_at_6 fl_X2_7
    · assumption
    · rfl
    refine V_icmp_ge (tgt := 30) (Y := mX2_at) (pc := 9) dX2_at_9 (by decide) ⟨by omega, by omega⟩ ⟨by omega, by omega⟩ (fun h_9 => ?_) (fun h_9 => ?_)
    · refine V_iconst (Y := mX2_at) (pc := 30) dX2_at_30 ?_
      refine V_iret (Y := mX2_at) (pc := 31) dX2_at_31 rfl (Nat.le_of_ble_eq_true rfl) (Nat.le_of_ble_eq_true rfl) ?_
      exact pR_I (by first | (rw [rAt_in (by omega)]; exact h5 _ (by omega)) | rw [rAt_out (by omega)])
    · refine V_iload_n (Y := mX2_at) (pc := 12) dX2_at_12 rfl ?_
      refine V_aload_n (Y := mX2_at) (pc := 13) dX2_at_13 rfl ?_
      apply V_get (Y := mX2_at) (pc := 14) dX2_at_14 fl_X2_19
      · assumption
      · rfl
      apply V_alen (Y := mX2_at) (pc := 17) dX2_at_17
      · assumption
      refine V_icmp_ge (tgt := 30) (Y := mX2_at) (pc := 18) dX2_at_18 (by decide) ⟨by omega, by omega⟩ ⟨by omega, by omega⟩ (fun h_18 => ?_) (fun h_18 => ?_)
      · refine V_iconst (Y := mX2_at) (pc := 30) dX2_at_30 ?_
        refine V_iret (Y := mX2_at) (pc := 31) dX2_at_31 rfl (Nat.le_of_ble_eq_true rfl) (Nat.le_of_ble_eq_true rfl) ?_
        exact pR_I (by first | (rw [rAt_in (by omega)]; exact h5 _ (by omega)) | rw [rAt_out (by omega)])
      · refine V_aload_n (Y := mX2_at) (pc := 21) dX2_at_21 rfl ?_
        apply V_get (Y := mX2_at) (pc := 22) dX2_at_22 fl_X2_19
        · assumption
        · rfl
        refine V_iload_n (Y := mX2_at) (pc := 25) dX2_at_25 rfl ?_
        apply V_iald (Y := mX2_at) (pc := 26) dX2_at_26
        · assumption
        · exact ⟨by omega, by omega⟩
        · omega
        refine V_goto (tgt := 31) (Y := mX2_at) (pc := 27) dX2_at_27 (by decide) ?_
        refine V_iret (Y := mX2_at) (pc := 31) dX2_at_31 rfl (Nat.le_of_ble_eq_true rfl) (Nat.le_of_ble_eq_true rfl) ?_
        exact pR_I (by first | (rw [rAt_in (by omega)]; exact h5 _ (by omega)) | rw [rAt_out (by omega)])
set_option maxRecDepth 100000 in
theorem c_Row_set {n : Nat} {w : vWd} {k cap : Nat} {l : List Int} {i v : Int} (h : RowAt w k cap l) (hi : inR i) : Ctr mX2_set (rm 0) [.ref k, vI i, vI v] n w (pV (fun w' => RowAt w' k cap (rSet l i v) ∧ fr2 k w w') n) := by
  have h0 := h
  obtain ⟨f, h1, h2, h3, h4, h5⟩ := h
  refine Ctr_of (lv := [some (.ref k), some (vI i), some (vI v)]) (by decide +kernel) rfl rfl ?_
  refine V_iload_n (Y := mX2_set) (pc := 0) dX2_set_0 rfl ?_
  refine V_if_lt (tgt := 28) (Y := mX2_set) (pc := 1) dX2_set_1 (by decide) ⟨by omega, by omega⟩ (fun h_1 => ?_) (fun h_1 => ?_)
  · refine V_vret (Y := mX2_set) (pc := 28) dX2_set_28 rfl (Nat.le_of_ble_eq_true rfl) (Nat.le_of_ble_eq_true rfl) ?_
    first
      | exact pV_of ⟨by rw [rSet_out (by omega)]; exact h0, fr2.refl k w⟩
      | (refine pV_of ⟨⟨va_up f i.toNat v, ?_, h_27, by rw [rSet_len]; exact h3, h4, ?_⟩, fun j a b => f_27 j b⟩
         · rw [rSet_len, f_27 k (by omega)]; exact h1
         · intro j hj
           rw [rSet_len] at hj
           rw [rSet, if_pos (by omega)]
           by_cases hji : j = i.toNat
           · subst hji
             rw [va_up_self, List.getD_eq_getElem?_getD, List.getElem?_set_self hj]; rfl
           · rw [va_up_ne _ _ hji, List.getD_eq_getElem?_getD, List.getElem?_set_ne (Ne.symm hji), h5 j hj, List.getD_eq_getElem?_getD])
  · refine V_iload_n (Y := mX2_set) (pc := 4) dX2_set_4 rfl ?_
    refine V_aload_n (Y := mX2_set) (pc := 5) dX2_set_5 rfl ?_
    apply V_get (Y := mX2_set) (pc := 6) dX2_set_6 fl_X2_7
    · assumption
    · rfl
    refine V_icmp_ge (tgt := 28) (Y := mX2_set) (pc := 9) dX2_set_9 (by decide) ⟨by omega, by omega⟩ ⟨by omega, by omega⟩ (fun h_9 => ?_) (fun h_9 => ?_)
    · refine V_vret (Y := mX2_set) (pc := 28) dX2_set_28 rfl (Nat.le_of_ble_eq_true rfl) (Nat.le_of_ble_eq_true rfl) ?_
      first
        | exact pV_of ⟨by rw [rSet_out (by omega)]; exact h0, fr2.refl k w⟩
        | (refine pV_of ⟨⟨va_up f i.toNat v, ?_, h_27, by rw [rSet_len]; exact h3, h4, ?_⟩, fun j a b => f_27 j b⟩
           · rw [rSet_len, f_27 k (by omega)]; exact h1
           · intro j hj
             rw [rSet_len] at hj
             rw [rSet, if_pos (by omega)]
             by_cases hji : j = i.toNat
             · subst hji
               rw [va_up_self, List.getD_eq_getElem?_getD, List.getElem?_set_self hj]; rfl
             · rw [va_up_ne _ _ hji, List.getD_eq_getElem?_getD, List.getElem?_set_ne (Ne.symm hji), h5 j hj, List.getD_eq_getElem?_getD])
    · refine V_iload_n (Y := mX2_set) (pc := 12) dX2_set_12 rfl ?_
      refine V_aload_n (Y := mX2_set) (pc := 13) dX2_set_13 rfl ?_
      apply V_get (Y := mX2_set) (pc := 14) dX2_set_14 fl_X2_19
      · assumption
      · rfl
      apply V_alen (Y := mX2_set) (pc := 17) dX2_set_17
      · assumption
      refine V_icmp_ge (tgt := 28) (Y := mX2_set) (pc := 18) dX2_set_18 (by decide) ⟨by omega, by omega⟩ ⟨by omega, by omega⟩ (fun h_18 => ?_) (fun h_18 => ?_)
      · refine V_vret (Y := mX2_set) (pc := 28) dX2_set_28 rfl (Nat.le_of_ble_eq_true rfl) (Nat.le_of_ble_eq_true rfl) ?_
        first
          | exact pV_of ⟨by rw [rSet_out (by omega)]; exact h0, fr2.refl k w⟩
          | (refine pV_of ⟨⟨va_up f i.toNat v, ?_, h_27, by rw [rSet_len]; exact h3, h4, ?_⟩, fun j a b => f_27 j b⟩
             · rw [rSet_len, f_27 k (by omega)]; exact h1
             · intro j hj
               rw [rSet_len] at hj
               rw [rSet, if_pos (by omega)]
               by_cases hji : j = i.toNat
               · subst hji
                 rw [va_up_self, List.getD_eq_getElem?_getD, List.getElem?_set_self hj]; rfl
               · rw [va_up_ne _ _ hji, List.getD_eq_getElem?_getD, List.getElem?_set_ne (Ne.symm hji), h5 j hj, List.getD_eq_getElem?_getD])
      · refine V_aload_n (Y := mX2_set) (pc := 21) dX2_set_21 rfl ?_
        apply V_get (Y := mX2_set) (pc := 22) dX2_set_22 fl_X2_19
        · assumption
        · rfl
        refine V_iload_n (Y := mX2_set) (pc := 25) dX2_set_25 rfl ?_
        refine V_iload_n (Y := mX2_set) (pc := 26) dX2_set_26 rfl ?_
        apply V_iastW (Y := mX2_set) (pc := 27) dX2_set_27
        · assumption
        · exact ⟨by omega, by omega⟩
        · omega
        intro w_27 h_27 f_27
        refine V_vret (Y := mX2_set) (pc := 28) dX2_set_28 rfl (Nat.le_of_ble_eq_true rfl) (Nat.le_of_ble_eq_true rfl) ?_
        first
          | exact pV_of ⟨by rw [rSet_out (by omega)]; exact h0, fr2.refl k w⟩
          | (refine pV_of ⟨⟨va_up f i.toNat v, ?_, h_27, by rw [rSet_len]; exact h3, h4, ?_⟩, fun j a b => f_27 j b⟩
             · rw [rSet_len, f_27 k (by omega)]; exact h1
             · intro j hj
               rw [rSet_len] at hj
               rw [rSet, if_pos (by omega)]
               by_cases hji : j = i.toNat
               · subst hji
                 rw [va_up_self, List.getD_eq_getElem?_getD, List.getElem?_set_self hj]; rfl
               · rw [va_up_ne _ _ hji, List.getD_eq_getElem?_getD, List.getElem?_set_ne (Ne.symm hji), h5 j hj, List.getD_eq_getElem?_getD])
set_option maxRecDepth 100000 in
theorem c_Row_drop {n : Nat} {w : vWd} {k cap : Nat} {l : List Int} (h : RowAt w k cap l) : Ctr mX2_drop (rm 0) [.ref k] n w (pV (fun w' => RowAt w' k cap [] ∧ fr2 k w w') n) := by
  obtain ⟨f, h1, h2, h3, h4, h5⟩ := h
  refine Ctr_of (lv := [some (.ref k)]) (by decide +kernel) rfl rfl ?_
  refine V_aload_n (Y := mX2_drop) (pc := 0) dX2_drop_0 rfl ?_
  refine V_iconst (Y := mX2_drop) (pc := 1) dX2_drop_1 ?_
  apply V_putiW (Y := mX2_drop) (pc := 2) dX2_drop_2 fl_X2_7
  · assumption
  · exact Nat.le_of_ble_eq_true rfl
  intro w_2 h_2 f_2
  simp only [List.set_cons_zero, List.set_cons_succ] at h_2
  refine V_vret (Y := mX2_drop) (pc := 5) dX2_drop_5 rfl (Nat.le_of_ble_eq_true rfl) (Nat.le_of_ble_eq_true rfl) ?_
  exact pV_of ⟨⟨f, h_2, by rw [f_2 (k + 1) (by omega)]; exact h2, Nat.zero_le _, h4, fun i hi => absurd hi (Nat.not_lt_zero i)⟩, fun j a b => f_2 j a⟩
set_option maxRecDepth 100000 in
theorem c_Row_add {n : Nat} {w : vWd} {k cap : Nat} {l : List Int} {v : Int} (h : RowAt w k cap l) : Ctr mX2_add (rm 0) [.ref k, vI v] n w (pV (fun w' => RowAt w' k cap (rAdd cap l v) ∧ fr2 k w w') n) := by
  have h0 := h
  obtain ⟨f, h1, h2, h3, h4, h5⟩ := h
  refine Ctr_of (lv := [some (.ref k), some (vI v)]) (by decide +kernel) rfl rfl ?_
  refine V_aload_n (Y := mX2_add) (pc := 0) dX2_add_0 rfl ?_
  apply V_get (Y := mX2_add) (pc := 1) dX2_add_1 fl_X2_7
  · assumption
  · rfl
  refine V_if_lt (tgt := 19) (Y := mX2_add) (pc := 4) dX2_add_4 (by decide) ⟨by omega, by omega⟩ (fun h_4 => ?_) (fun h_4 => ?_)
  · refine V_vret (Y := mX2_add) (pc := 19) dX2_add_19 rfl (Nat.le_of_ble_eq_true rfl) (Nat.le_of_ble_eq_true rfl) ?_
    exact pV_of ⟨by rw [rAdd, if_neg (by omega)]; exact h0, fr2.refl k w⟩
  · refine V_aload_n (Y := mX2_add) (pc := 7) dX2_add_7 rfl ?_
    apply V_get (Y := mX2_add) (pc := 8) dX2_add_8 fl_X2_7
    · assumption
    · rfl
    refine V_aload_n (Y := mX2_add) (pc := 11) dX2_add_11 rfl ?_
    apply V_get (Y := mX2_add) (pc := 12) dX2_add_12 fl_X2_19
    · assumption
    · rfl
    apply V_alen (Y := mX2_add) (pc := 15) dX2_add_15
    · assumption
    refine V_icmp_lt (tgt := 20) (Y := mX2_add) (pc := 16) dX2_add_16 (by decide) ⟨by omega, by omega⟩ ⟨by omega, by omega⟩ (fun h_16 => ?_) (fun h_16 => ?_)
    · refine V_aload_n (Y := mX2_add) (pc := 20) dX2_add_20 rfl ?_
      apply V_get (Y := mX2_add) (pc := 21) dX2_add_21 fl_X2_19
      · assumption
      · rfl
      refine V_aload_n (Y := mX2_add) (pc := 24) dX2_add_24 rfl ?_
      apply V_get (Y := mX2_add) (pc := 25) dX2_add_25 fl_X2_7
      · assumption
      · rfl
      refine V_iload_n (Y := mX2_add) (pc := 28) dX2_add_28 rfl ?_
      apply V_iastW (Y := mX2_add) (pc := 29) dX2_add_29
      · assumption
      · exact ⟨by omega, by omega⟩
      · omega
      intro w_29 h_29 f_29
      have hk := (f_29 k (by omega)).trans h1
      refine V_aload_n (Y := mX2_add) (pc := 30) dX2_add_30 rfl ?_
      refine V_dup (Y := mX2_add) (pc := 31) dX2_add_31 rfl ?_
      apply V_get (Y := mX2_add) (pc := 32) dX2_add_32 fl_X2_7
      · assumption
      · rfl
      refine V_iconst (Y := mX2_add) (pc := 35) dX2_add_35 ?_
      refine V_iadd (Y := mX2_add) (pc := 36) dX2_add_36 ?_
      apply V_putiW (Y := mX2_add) (pc := 37) dX2_add_37 fl_X2_7
      · assumption
      · exact Nat.le_of_ble_eq_true rfl
      intro w_37 h_37 f_37
      simp only [List.set_cons_zero, List.set_cons_succ] at h_37
      refine V_vret (Y := mX2_add) (pc := 40) dX2_add_40 rfl (Nat.le_of_ble_eq_true rfl) (Nat.le_of_ble_eq_true rfl) ?_
      refine pV_of ⟨⟨va_up f l.length v, ?_, ?_, ?_, h4, ?_⟩, fun j a b => (f_37 j a).trans (f_29 j b)⟩
      · rw [rAdd, if_pos (by omega), List.length_append]; exact h_37
      · rw [f_37 _ (by omega)]; exact h_29
      · rw [rAdd, if_pos (by omega), List.length_append, List.length_singleton]; omega
      · intro j hj
        rw [rAdd, if_pos (by omega)] at hj ⊢
        rw [List.length_append, List.length_singleton] at hj
        by_cases hji : j = l.length
        · subst hji
          rw [va_up_self, List.getD_eq_getElem?_getD, List.getElem?_append_right (Nat.le_refl _), Nat.sub_self]; rfl
        · rw [va_up_ne _ _ hji, List.getD_eq_getElem?_getD, List.getElem?_append_left (by omega), h5 j (by omega), List.getD_eq_getElem?_getD]
    · refine V_vret (Y := mX2_add) (pc := 19) dX2_add_19 rfl (Nat.le_of_ble_eq_true rfl) (Nat.le_of_ble_eq_true rfl) ?_
      exact pV_of ⟨by rw [rAdd, if_neg (by omega)]; exact h0, fr2.refl k w⟩
set_option maxRecDepth 100000 in
theorem c_Row_takeLast {n : Nat} {w : vWd} {k cap : Nat} {l : List Int} (h : RowAt w k cap l) : Ctr mX2_takeLast (rm 1) [.ref k] n w (pI (fun z w' => z = rAt l (l.length - 1) ∧ RowAt w' k cap l.dropLast ∧ fr2 k w w') n) := by
  have h0 := h
  obtain ⟨f, h1, h2, h3, h4, h5⟩ := h
  refine Ctr_of (lv := [some (.ref k), none]) (by decide +kernel) rfl rfl ?_
  refine V_aload_n (Y := mX2_takeLast) (pc := 0) dX2_takeLast_0 rfl ?_
  refine V_aload_n (Y := mX2_takeLast) (pc := 1) dX2_takeLast_1 rfl ?_
  apply V_get (Y := mX2_takeLast) (pc := 2) dX2_takeLast_2 fl_X2_7
  · assumption
  · rfl
  refine V_iconst (Y := mX2_takeLast) (pc := 5) dX2_takeLast_5 ?_
  refine V_isub (Y := mX2_takeLast) (pc := 6) dX2_takeLast_6 ?_
  apply V_vR (Y := mX2_takeLast) (pc := 7) dX2_takeLast_7 ok_X2_at ov_X2_at ln_X2_23 (c_Row_at (i := l.length - 1) h0 ⟨by omega, by omega⟩)
  · assumption
  · rfl
  · rfl
  · rfl
  · rfl
  · rfl
  refine V_istore_n (Y := mX2_takeLast) (pc := 10) dX2_takeLast_10 rfl ?_
  refine V_aload_n (Y := mX2_takeLast) (pc := 11) dX2_takeLast_11 rfl ?_
  refine V_iconst (Y := mX2_takeLast) (pc := 12) dX2_takeLast_12 ?_
  refine V_aload_n (Y := mX2_takeLast) (pc := 13) dX2_takeLast_13 rfl ?_
  apply V_get (Y := mX2_takeLast) (pc := 14) dX2_takeLast_14 fl_X2_7
  · assumption
  · rfl
  refine V_iconst (Y := mX2_takeLast) (pc := 17) dX2_takeLast_17 ?_
  refine V_isub (Y := mX2_takeLast) (pc := 18) dX2_takeLast_18 ?_
  apply V_sR (Y := mX2_takeLast) (pc := 19) dX2_takeLast_19 ok_J9_max_7cf53 os_J9_max_7cf53 ln_X2_13 (c_max (a := 0) (b := l.length - 1) ⟨by omega, by omega⟩ ⟨by omega, by omega⟩)
  · rfl
  · rfl
  · rfl
  apply V_putiW (Y := mX2_takeLast) (pc := 22) dX2_takeLast_22 fl_X2_7
  · assumption
  · exact Nat.le_of_ble_eq_true rfl
  intro w_22 h_22 f_22
  simp only [List.set_cons_zero, List.set_cons_succ] at h_22
  refine V_iload_n (Y := mX2_takeLast) (pc := 25) dX2_takeLast_25 rfl ?_
  refine V_iret (Y := mX2_takeLast) (pc := 26) dX2_takeLast_26 rfl (Nat.le_of_ble_eq_true rfl) (Nat.le_of_ble_eq_true rfl) ?_
  refine pI_of ⟨rfl, ⟨f, ?_, ?_, ?_, h4, ?_⟩, fun j a b => f_22 j a⟩
  · rw [h_22, List.length_dropLast, show max 0 ((l.length : Int) - 1) = ((l.length - 1 : Nat) : Int) by omega]
  · rw [f_22 _ (by omega)]; exact h2
  · rw [List.length_dropLast]; omega
  · intro j hj
    rw [List.length_dropLast] at hj
    rw [h5 j (by omega), List.getD_eq_getElem?_getD, List.getD_eq_getElem?_getD, List.getElem?_dropLast, if_pos (by omega)]
set_option maxRecDepth 100000 in
theorem lp_Row_dropFirst {n : Nat} {w : vWd} {k cap : Nat} {l : List Int} : ∀ (m : Nat) (i : Int) (w' : vWd) (l' : List Int), 1 ≤ i → i ≤ 30000 → (l.length - i).toNat < m → fr2 k w w' → RowAt w' k cap l' → l'.length = l.length → (∀ j : Nat, l'.getD j 0 = if (j : Int) + 1 < i then l.getD (j + 1) 0 else l.getD j 0) →
    V mX2_dropFirst (rm 1) (pV (fun w' => RowAt w' k cap l.tail ∧ fr2 k w w') n) 2 [some (.ref k), some (vI i)] [] n w' 0 0 := by
  intro m
  induction m with
  | zero => intro i w' l' h1 h2 h3; omega
  | succ m ih =>
    intro i w' l' hi hi2 hm hfr h hlen hl
    have h0 := h
    obtain ⟨f, h1, h2, h3, h4, h5⟩ := h
    rw [hlen] at h1
    refine V_iload_n (Y := mX2_dropFirst) (pc := 2) dX2_dropFirst_2 rfl ?_
    refine V_aload_n (Y := mX2_dropFirst) (pc := 3) dX2_dropFirst_3 rfl ?_
    apply V_get (Y := mX2_dropFirst) (pc := 4) dX2_dropFirst_4 fl_X2_7
    · assumption
    · rfl
    refine V_icmp_ge (tgt := 28) (Y := mX2_dropFirst) (pc := 7) dX2_dropFirst_7 (by decide) ⟨by omega, by omega⟩ ⟨by omega, by omega⟩ (fun h_7 => ?_) (fun h_7 => ?_)
    · refine V_aload_n (Y := mX2_dropFirst) (pc := 28) dX2_dropFirst_28 rfl ?_
      refine V_iconst (Y := mX2_dropFirst) (pc := 29) dX2_dropFirst_29 ?_
      refine V_aload_n (Y := mX2_dropFirst) (pc := 30) dX2_dropFirst_30 rfl ?_
      apply V_get (Y := mX2_dropFirst) (pc := 31) dX2_dropFirst_31 fl_X2_7
      · assumption
      · rfl
      refine V_iconst (Y := mX2_dropFirst) (pc := 34) dX2_dropFirst_34 ?_
      refine V_isub (Y := mX2_dropFirst) (pc := 35) dX2_dropFirst_35 ?_
      apply V_sR (Y := mX2_dropFirst) (pc := 36) dX2_dropFirst_36 ok_J9_max_7cf53 os_J9_max_7cf53 ln_X2_13 (c_max (a := 0) (b := l.length - 1) ⟨by omega, by omega⟩ ⟨by omega, by omega⟩)
      · rfl
      · rfl
      · rfl
      apply V_putiW (Y := mX2_dropFirst) (pc := 39) dX2_dropFirst_39 fl_X2_7
      · assumption
      · exact Nat.le_of_ble_eq_true rfl
      intro w_39 h_39 f_39
      simp only [List.set_cons_zero, List.set_cons_succ] at h_39
      refine V_vret (Y := mX2_dropFirst) (pc := 42) dX2_dropFirst_42 rfl (Nat.le_of_ble_eq_true rfl) (Nat.le_of_ble_eq_true rfl) ?_
      refine pV_of ⟨⟨f, ?_, ?_, ?_, h4, ?_⟩, fun j a b => (f_39 j a).trans (hfr j a b)⟩
      · rw [h_39, List.length_tail, show max 0 ((l.length : Int) - 1) = ((l.length - 1 : Nat) : Int) by omega]
      · rw [f_39 _ (by omega)]; exact h2
      · rw [List.length_tail]; omega
      · intro j hj
        rw [List.length_tail] at hj
        rw [h5 j (by omega), hl, if_pos (by omega), List.getD_eq_getElem?_getD, List.getD_eq_getElem?_getD, List.getElem?_tail]
    · refine V_aload_n (Y := mX2_dropFirst) (pc := 10) dX2_dropFirst_10 rfl ?_
      refine V_iload_n (Y := mX2_dropFirst) (pc := 11) dX2_dropFirst_11 rfl ?_
      refine V_iconst (Y := mX2_dropFirst) (pc := 12) dX2_dropFirst_12 ?_
      refine V_isub (Y := mX2_dropFirst) (pc := 13) dX2_dropFirst_13 ?_
      refine V_aload_n (Y := mX2_dropFirst) (pc := 14) dX2_dropFirst_14 rfl ?_
      refine V_iload_n (Y := mX2_dropFirst) (pc := 15) dX2_dropFirst_15 rfl ?_
      apply V_vR (Y := mX2_dropFirst) (pc := 16) dX2_dropFirst_16 ok_X2_at ov_X2_at ln_X2_23 (c_Row_at (i := i) h0 ⟨by omega, by omega⟩)
      · assumption
      · rfl
      · rfl
      · rfl
      · rfl
      · rfl
      apply V_vV (Y := mX2_dropFirst) (pc := 19) dX2_dropFirst_19 ok_X2_set ov_X2_set ln_X2_27 (c_Row_set (i := i - 1) (v := rAt l' i) h0 ⟨by omega, by omega⟩)
      · assumption
      · rfl
      · rfl
      · rfl
      · rfl
      · rfl
      rintro w_19 ⟨g1, g2⟩
      refine V_iinc (Y := mX2_dropFirst) (pc := 22) dX2_dropFirst_22 rfl rfl ?_
      skip
      refine V_goto (tgt := 2) (Y := mX2_dropFirst) (pc := 25) dX2_dropFirst_25 (by decide) ?_
      refine ih (i + 1) w_19 _ (by omega) (by omega) (by omega) (hfr.trans g2) g1 (by rw [rSet_len]; exact hlen) (fun j => ?_)
      have hil : i.toNat < l'.length := by omega
      rw [rSet, if_pos (by omega), List.getD_eq_getElem?_getD]
      by_cases hj : j = (i - 1).toNat
      · subst hj
        rw [List.getElem?_set_self (by omega), if_pos (by omega), Option.getD_some, rAt_in (by omega), hl, if_neg (by omega)]
        congr 1
        omega
      · rw [List.getElem?_set_ne (Ne.symm hj), ← List.getD_eq_getElem?_getD, hl]
        by_cases h6 : (j : Int) + 1 < i
        · rw [if_pos h6, if_pos (by omega)]
        · rw [if_neg h6, if_neg (by omega)]
set_option maxRecDepth 100000 in
theorem c_Row_dropFirst {n : Nat} {w : vWd} {k cap : Nat} {l : List Int} (h : RowAt w k cap l) : Ctr mX2_dropFirst (rm 1) [.ref k] n w (pV (fun w' => RowAt w' k cap l.tail ∧ fr2 k w w') n) := by
  refine Ctr_of (lv := [some (.ref k), none]) (by decide +kernel) rfl rfl ?_
  refine V_iconst (Y := mX2_dropFirst) (pc := 0) dX2_dropFirst_0 ?_
  refine V_istore_n (Y := mX2_dropFirst) (pc := 1) dX2_dropFirst_1 rfl ?_
  exact lp_Row_dropFirst (l.length + 1) 1 w l (by omega) (by omega) (by omega) (fr2.refl k w) h rfl (fun j => by rw [if_neg (by omega)])
set_option maxRecDepth 100000 in
theorem lp_Row_fill {n : Nat} {w : vWd} {k cap N : Nat} {v mny : Int} (hN : N ≤ cap) (hc : cap ≤ 20000) : ∀ (m : Nat) (i : Int) (w' : vWd) (f : Nat → Int), 0 ≤ i → i ≤ N → (N - i).toNat < m → fr2 k w w' → w' k = some (.inr (2, [.ref (k + 1), vI (N : Int)])) → w' (k + 1) = some (arI cap f) → (∀ j : Nat, (j : Int) < i → f j = v) →
    V mX2_fill (rm 1) (pV (fun w' => RowAt w' k cap (List.replicate N v) ∧ fr2 k w w') n) 19 [some (.ref k), some (vI mny), some (vI v), some (vI i)] [] n w' 0 0 := by
  intro m
  induction m with
  | zero => intro i w' l' h1 h2 h3; omega
  | succ m ih =>
    intro i w' f hi hi2 hm hfr h1 h2 hf
    refine V_iload_n (Y := mX2_fill) (pc := 19) dX2_fill_19 rfl ?_
    refine V_aload_n (Y := mX2_fill) (pc := 20) dX2_fill_20 rfl ?_
    apply V_get (Y := mX2_fill) (pc := 21) dX2_fill_21 fl_X2_7
    · assumption
    · rfl
    refine V_icmp_ge (tgt := 49) (Y := mX2_fill) (pc := 24) dX2_fill_24 (by decide) ⟨by omega, by omega⟩ ⟨by omega, by omega⟩ (fun h_24 => ?_) (fun h_24 => ?_)
    · refine V_vret (Y := mX2_fill) (pc := 49) dX2_fill_49 rfl (Nat.le_of_ble_eq_true rfl) (Nat.le_of_ble_eq_true rfl) ?_
      refine pV_of ⟨⟨f, by rw [List.length_replicate]; exact h1, h2, by rw [List.length_replicate]; exact hN, hc, fun j hj => ?_⟩, hfr⟩
      rw [List.length_replicate] at hj
      rw [List.getD_eq_getElem?_getD, List.getElem?_replicate, if_pos hj, hf j (by omega)]; rfl
    · refine V_iload_n (Y := mX2_fill) (pc := 27) dX2_fill_27 rfl ?_
      refine V_aload_n (Y := mX2_fill) (pc := 28) dX2_fill_28 rfl ?_
      apply V_get (Y := mX2_fill) (pc := 29) dX2_fill_29 fl_X2_19
      · assumption
      · rfl
      apply V_alen (Y := mX2_fill) (pc := 32) dX2_fill_32
      · assumption
      refine V_icmp_ge (tgt := 49) (Y := mX2_fill) (pc := 33) dX2_fill_33 (by decide) ⟨by omega, by omega⟩ ⟨by omega, by omega⟩ (fun h_33 => ?_) (fun h_33 => ?_)
      · refine V_vret (Y := mX2_fill) (pc := 49) dX2_fill_49 rfl (Nat.le_of_ble_eq_true rfl) (Nat.le_of_ble_eq_true rfl) ?_
        refine pV_of ⟨⟨f, by rw [List.length_replicate]; exact h1, h2, by rw [List.length_replicate]; exact hN, hc, fun j hj => ?_⟩, hfr⟩
        rw [List.length_replicate] at hj
        rw [List.getD_eq_getElem?_getD, List.getElem?_replicate, if_pos hj, hf j (by omega)]; rfl
      · refine V_aload_n (Y := mX2_fill) (pc := 36) dX2_fill_36 rfl ?_
        apply V_get (Y := mX2_fill) (pc := 37) dX2_fill_37 fl_X2_19
        · assumption
        · rfl
        refine V_iload_n (Y := mX2_fill) (pc := 40) dX2_fill_40 rfl ?_
        refine V_iload_n (Y := mX2_fill) (pc := 41) dX2_fill_41 rfl ?_
        apply V_iastW (Y := mX2_fill) (pc := 42) dX2_fill_42
        · assumption
        · exact ⟨by omega, by omega⟩
        · omega
        intro w_42 h_42 f_42
        have hk := (f_42 k (by omega)).trans h1
        refine V_iinc (Y := mX2_fill) (pc := 43) dX2_fill_43 rfl rfl ?_
        refine V_goto (tgt := 19) (Y := mX2_fill) (pc := 46) dX2_fill_46 (by decide) ?_
        refine ih (i + 1) w_42 _ (by omega) (by omega) (by omega) (fun j a b => (f_42 j b).trans (hfr j a b)) hk h_42 (fun j hj => ?_)
        by_cases hji : j = i.toNat
        · subst hji; rw [va_up_self]
        · rw [va_up_ne _ _ hji]; exact hf j (by omega)
set_option maxRecDepth 100000 in
theorem c_Row_fill {n : Nat} {w : vWd} {k cap : Nat} {l : List Int} {v mny : Int} (h : RowAt w k cap l) (hm : inR mny) : Ctr mX2_fill (rm 1) [.ref k, vI mny, vI v] n w (pV (fun w' => RowAt w' k cap (List.replicate (min mny cap).toNat v) ∧ fr2 k w w') n) := by
  obtain ⟨f, h1, h2, h3, h4, h5⟩ := h
  refine Ctr_of (lv := [some (.ref k), some (vI mny), some (vI v), none]) (by decide +kernel) rfl rfl ?_
  refine V_aload_n (Y := mX2_fill) (pc := 0) dX2_fill_0 rfl ?_
  refine V_iconst (Y := mX2_fill) (pc := 1) dX2_fill_1 ?_
  refine V_iload_n (Y := mX2_fill) (pc := 2) dX2_fill_2 rfl ?_
  refine V_aload_n (Y := mX2_fill) (pc := 3) dX2_fill_3 rfl ?_
  apply V_get (Y := mX2_fill) (pc := 4) dX2_fill_4 fl_X2_19
  · assumption
  · rfl
  apply V_alen (Y := mX2_fill) (pc := 7) dX2_fill_7
  · assumption
  apply V_sR (Y := mX2_fill) (pc := 8) dX2_fill_8 ok_J9_min_7cf53 os_J9_min_7cf53 ln_X2_31 (c_min (a := mny) (b := cap) ⟨by omega, by omega⟩ ⟨by omega, by omega⟩)
  · rfl
  · rfl
  · rfl
  apply V_sR (Y := mX2_fill) (pc := 11) dX2_fill_11 ok_J9_max_7cf53 os_J9_max_7cf53 ln_X2_13 (c_max (a := 0) (b := min mny cap) ⟨by omega, by omega⟩ ⟨by omega, by omega⟩)
  · rfl
  · rfl
  · rfl
  apply V_putiW (Y := mX2_fill) (pc := 14) dX2_fill_14 fl_X2_7
  · assumption
  · exact Nat.le_of_ble_eq_true rfl
  intro w_14 h_14 f_14
  simp only [List.set_cons_zero, List.set_cons_succ] at h_14
  refine V_iconst (Y := mX2_fill) (pc := 17) dX2_fill_17 ?_
  refine V_istore_n (Y := mX2_fill) (pc := 18) dX2_fill_18 rfl ?_
  exact lp_Row_fill (N := (min mny cap).toNat) (by omega) h4 ((min mny cap).toNat + 1) 0 w_14 f (by omega) (by omega) (by omega) (fun j a b => f_14 j a) (by rw [h_14, show max 0 (min mny (cap : Int)) = (((min mny cap).toNat : Nat) : Int) by omega]) ((f_14 _ (by omega)).trans h2) (fun j hj => by omega)
set_option maxRecDepth 100000 in
theorem lp_Row_copyFrom {n : Nat} {w : vWd} {k cap k2 cap2 : Nat} {l2 : List Int} (hd : k ≠ k2 ∧ k2 ≠ k + 1 ∧ k2 + 1 ≠ k) : ∀ (m : Nat) (i : Int) (w' : vWd), 0 ≤ i → i ≤ l2.length → (l2.length - i).toNat < m → fr2 k w w' → RowAt w' k cap ((l2.take i.toNat).take cap) → RowAt w' k2 cap2 l2 →
    V mX2_copyFrom (rm 1) (pV (fun w' => RowAt w' k cap (l2.take cap) ∧ fr2 k w w') n) 7 [some (.ref k), some (.ref k2), some (vI i)] [] n w' 0 0 := by
  intro m
  induction m with
  | zero => intro i w' h1 h2 h3; omega
  | succ m ih =>
    intro i w' hi hi2 hm hfr hk h
    have ho := hk.obj
    have h0 := h
    obtain ⟨f, h1, h2, h3, h4, h5⟩ := h
    refine V_iload_n (Y := mX2_copyFrom) (pc := 7) dX2_copyFrom_7 rfl ?_
    refine V_aload_n (Y := mX2_copyFrom) (pc := 8) dX2_copyFrom_8 rfl ?_
    apply V_get (Y := mX2_copyFrom) (pc := 9) dX2_copyFrom_9 fl_X2_7
    · assumption
    · rfl
    refine V_icmp_ge (tgt := 30) (Y := mX2_copyFrom) (pc := 12) dX2_copyFrom_12 (by decide) ⟨by omega, by omega⟩ ⟨by omega, by omega⟩ (fun h_12 => ?_) (fun h_12 => ?_)
    · refine V_vret (Y := mX2_copyFrom) (pc := 30) dX2_copyFrom_30 rfl (Nat.le_of_ble_eq_true rfl) (Nat.le_of_ble_eq_true rfl) ?_
      refine pV_of ⟨?_, hfr⟩
      rw [show i.toNat = l2.length by omega, List.take_length] at hk
      exact hk
    · refine V_aload_n (Y := mX2_copyFrom) (pc := 15) dX2_copyFrom_15 rfl ?_
      refine V_aload_n (Y := mX2_copyFrom) (pc := 16) dX2_copyFrom_16 rfl ?_
      refine V_iload_n (Y := mX2_copyFrom) (pc := 17) dX2_copyFrom_17 rfl ?_
      apply V_vR (Y := mX2_copyFrom) (pc := 18) dX2_copyFrom_18 ok_X2_at ov_X2_at ln_X2_23 (c_Row_at (i := i) h0 ⟨by omega, by omega⟩)
      · assumption
      · rfl
      · rfl
      · rfl
      · rfl
      · rfl
      apply V_vV (Y := mX2_copyFrom) (pc := 21) dX2_copyFrom_21 ok_X2_add ov_X2_add ln_X2_34 (c_Row_add (v := rAt l2 i) hk)
      · assumption
      · rfl
      · rfl
      · rfl
      · rfl
      · rfl
      rintro w_21 ⟨g1, g2⟩
      refine V_iinc (Y := mX2_copyFrom) (pc := 24) dX2_copyFrom_24 rfl rfl ?_
      skip
      refine V_goto (tgt := 7) (Y := mX2_copyFrom) (pc := 27) dX2_copyFrom_27 (by decide) ?_
      refine ih (i + 1) w_21 (by omega) (by omega) (by omega) (hfr.trans g2) (by rw [← rAdd_take hi (by omega)]; exact g1) (h0.fr g2 ⟨by omega, by omega, by omega⟩)
set_option maxRecDepth 100000 in
theorem c_Row_copyFrom {n : Nat} {w : vWd} {k cap k2 cap2 : Nat} {l l2 : List Int} (h : RowAt w k cap l) (h2 : RowAt w k2 cap2 l2) (hd : k ≠ k2 ∧ k2 ≠ k + 1 ∧ k2 + 1 ≠ k) : Ctr mX2_copyFrom (rm 1) [.ref k, .ref k2] n w (pV (fun w' => RowAt w' k cap (l2.take cap) ∧ fr2 k w w') n) := by
  have g2 := h2
  obtain ⟨f, h1, h2, h3, h4, h5⟩ := h
  refine Ctr_of (lv := [some (.ref k), some (.ref k2), none]) (by decide +kernel) rfl rfl ?_
  refine V_aload_n (Y := mX2_copyFrom) (pc := 0) dX2_copyFrom_0 rfl ?_
  refine V_iconst (Y := mX2_copyFrom) (pc := 1) dX2_copyFrom_1 ?_
  apply V_putiW (Y := mX2_copyFrom) (pc := 2) dX2_copyFrom_2 fl_X2_7
  · assumption
  · exact Nat.le_of_ble_eq_true rfl
  intro w_2 h_2 f_2
  simp only [List.set_cons_zero, List.set_cons_succ] at h_2
  refine V_iconst (Y := mX2_copyFrom) (pc := 5) dX2_copyFrom_5 ?_
  refine V_istore_n (Y := mX2_copyFrom) (pc := 6) dX2_copyFrom_6 rfl ?_
  have hfr : fr2 k w w_2 := fun j a b => f_2 j a
  refine lp_Row_copyFrom hd (l2.length + 1) 0 w_2 (by omega) (by omega) (by omega) hfr ?_ (g2.fr hfr ⟨by omega, by omega, by omega⟩)
  rw [show (Int.toNat 0) = 0 from rfl, List.take_zero, List.take_nil]
  exact ⟨f, h_2, (f_2 _ (by omega)).trans h2, Nat.zero_le _, h4, fun j hj => absurd hj (by simp)⟩
end
section
/-! ===== bits, powers of three, digits: the class's static helpers ===== -/
theorem bs_sm : ∀ d, d < 32 → ((nI d &&& 31).toBitVec.smod 32).toNat = d := by decide +kernel
theorem iI_and (a b : Nat) : iI a &&& iI b = iI ((a &&& b : Nat) : Int) := by
  rw [← nI_iI, ← nI_iI, ← nI_iI]
  apply Int32.toBitVec_inj.1
  show BitVec.ofNat 32 a &&& BitVec.ofNat 32 b = BitVec.ofNat 32 (a &&& b)
  apply BitVec.eq_of_getLsbD_eq
  intro i hi
  simp [hi]
theorem iI_or (a b : Nat) : iI a ||| iI b = iI ((a ||| b : Nat) : Int) := by
  rw [← nI_iI, ← nI_iI, ← nI_iI]
  apply Int32.toBitVec_inj.1
  show BitVec.ofNat 32 a ||| BitVec.ofNat 32 b = BitVec.ofNat 32 (a ||| b)
  apply BitVec.eq_of_getLsbD_eq
  intro i hi
  simp [hi]
theorem iI_xor (a b : Nat) : iI a ^^^ iI b = iI ((a ^^^ b : Nat) : Int) := by
  rw [← nI_iI, ← nI_iI, ← nI_iI]
  apply Int32.toBitVec_inj.1
  show BitVec.ofNat 32 a ^^^ BitVec.ofNat 32 b = BitVec.ofNat 32 (a ^^^ b)
  apply BitVec.eq_of_getLsbD_eq
  intro i hi
  simp [hi]
theorem iI_shl {a : Nat} {d : Int} (h0 : 0 ≤ d) (h : d < 32) (ha : a * 2 ^ d.toNat < 2 ^ 32) : iI a <<< (iI d &&& 31) = iI ((a * 2 ^ d.toNat : Nat) : Int) := by
  obtain ⟨m, rfl⟩ := Int.eq_ofNat_of_zero_le h0
  rw [← nI_iI, ← nI_iI, ← nI_iI]
  exact pk_shlN _ m (bs_sm m (by omega)) ha
theorem iI_shl1 {d : Int} (h0 : 0 ≤ d) (h : d < 31) : iI 1 <<< (iI d &&& 31) = iI ((2 ^ d.toNat : Nat) : Int) := by
  have h1 : (2 : Nat) ^ d.toNat < 2 ^ 31 := Nat.pow_lt_pow_right (by decide) (by omega)
  have h2 := iI_shl (a := 1) h0 (by omega) (by omega)
  rw [Nat.one_mul] at h2
  exact h2
theorem iI_shr {a : Nat} {d : Int} (h0 : 0 ≤ d) (h : d < 32) (ha : a < 2 ^ 31) : iI a >>> (iI d &&& 31) = iI ((a / 2 ^ d.toNat : Nat) : Int) := by
  obtain ⟨m, rfl⟩ := Int.eq_ofNat_of_zero_le h0
  rw [← nI_iI, ← nI_iI, ← nI_iI]
  exact pk_shrN ha _ m (bs_sm m (by omega))
theorem testBit_1 (a d : Nat) : (a / 2 ^ d &&& 1 : Nat) = if a.testBit d then 1 else 0 := by
  rw [Nat.and_one_is_mod, ← Nat.shiftRight_eq_div_pow]
  have h := Nat.testBit_eq_decide_div_mod_eq (x := a) (i := d)
  rw [h, Nat.shiftRight_eq_div_pow]
  by_cases h2 : a / 2 ^ d % 2 = 1
  · simp [h2]
  · have : a / 2 ^ d % 2 = 0 := by omega
    simp [this]
/-! digits to the base three -/
def p3 (k : Nat) : Int := 3 ^ k
theorem p3_succ (k : Nat) : p3 (k + 1) = p3 k * 3 := Int.pow_succ 3 k
theorem p3_pos (k : Nat) : 0 < p3 k := Int.pow_pos (by decide)
theorem p3_le : ∀ k, k ≤ 7 → p3 k ≤ 2187 := by decide
theorem p3_mono {a b : Nat} (h : a ≤ b) : p3 a ≤ p3 b := by
  induction h with
  | refl => exact Int.le_refl _
  | step _ ih => rw [p3_succ]; have := p3_pos a; omega
def sd (s : Int) (i : Nat) : Int := s / p3 i
def dg (s : Int) (d : Nat) : Int := sd s d % 3
theorem sd_0 (s : Int) : sd s 0 = s := Int.ediv_one s
theorem sd_succ (s : Int) (i : Nat) : sd s (i + 1) = sd s i / 3 := by
  unfold sd
  rw [p3_succ, Int.ediv_ediv_of_nonneg (Int.le_of_lt (p3_pos i))]
theorem sd_rng {s : Int} (h : 0 ≤ s) (i : Nat) : 0 ≤ sd s i ∧ sd s i ≤ s := ⟨Int.ediv_nonneg h (Int.le_of_lt (p3_pos i)), Int.ediv_le_self _ h⟩
theorem dg_rng (s : Int) (d : Nat) : 0 ≤ dg s d ∧ dg s d ≤ 2 := ⟨Int.emod_nonneg _ (by decide), by have := Int.emod_lt_of_pos (sd s d) (b := 3) (by decide); unfold dg; omega⟩
/-- beyond its drawers a state's digits are 0 -/
theorem dg_out {s : Int} {n d : Nat} (h0 : 0 ≤ s) (h : s < p3 n) (hd : n ≤ d) : dg s d = 0 := by
  unfold dg sd
  rw [Int.ediv_eq_zero_of_lt h0 (Int.lt_of_lt_of_le h (p3_mono hd))]
  rfl
def mv (s : Int) (d : Nat) (v : Int) : Int := s + (max 0 (min 2 (dg s d + v)) - dg s d) * p3 d
def drB (s v : Int) : Nat → Nat
  | 0 => 0
  | m + 1 => drB s v m ||| (if dg s m = v then 2 ^ m else 0)
theorem drB_bit (s v : Int) : ∀ (m d : Nat), (drB s v m).testBit d = decide (d < m ∧ dg s d = v)
  | 0, d => by simp [drB]
  | m + 1, d => by
    rw [drB, Nat.testBit_or, drB_bit s v m d]
    by_cases h : dg s m = v
    · rw [if_pos h, Nat.testBit_two_pow]
      by_cases h2 : m = d
      · subst h2; simp [h]
      · have : d < m + 1 ↔ d < m := by omega
        simp [h2, this]
    · rw [if_neg h, Nat.zero_testBit, Bool.or_false]
      by_cases h2 : m = d
      · subst h2; simp [h]
      · have : d < m + 1 ↔ d < m := by omega
        simp [this]
theorem drB_lt (s v : Int) : ∀ m, drB s v m < 2 ^ m
  | 0 => by simp [drB]
  | m + 1 => by
    have ih := drB_lt s v m
    have h2 : (2 : Nat) ^ (m + 1) = 2 * 2 ^ m := by rw [Nat.pow_succ]; omega
    rw [drB]
    apply Nat.or_lt_two_pow
    · omega
    · split
      · omega
      · exact Nat.two_pow_pos _
def bsB (a : Nat) : Nat := a * 2 ||| a / 2
theorem bsB_bit (a d : Nat) : (bsB a).testBit d = ((decide (0 < d) && a.testBit (d - 1)) || a.testBit (d + 1)) := by
  unfold bsB
  rw [Nat.testBit_or, Nat.testBit_div_two, show a * 2 = 2 ^ 1 * a by omega, Nat.testBit_two_pow_mul]
  congr 1
abbrev opB (s : Int) (d : Nat) : Prop := (0 < d ∧ dg s (d - 1) = 2) ∨ (d < 6 ∧ dg s (d + 1) = 2)

def sumW (w s : Int) : Nat → Int
  | 0 => 0
  | m + 1 => sumW w s m + dg w m * dg s m
theorem opB_iff (s : Int) {d : Nat} (hd : d < 7) : (bsB (2 ^ d) &&& drB s 2 7) ≠ 0 ↔ opB s d := by
  constructor
  · intro h
    obtain ⟨i, hi⟩ := Nat.exists_testBit_of_ne_zero h
    rw [Nat.testBit_and, bsB_bit, drB_bit] at hi
    simp only [Nat.testBit_two_pow, Bool.and_eq_true, Bool.or_eq_true, decide_eq_true_eq] at hi
    obtain ⟨h1 | h1, h2, h3⟩ := hi
    · right; have : i = d + 1 := by omega
      subst this; exact ⟨by omega, h3⟩
    · left; have : d - 1 = i := by omega
      rw [this]; exact ⟨by omega, h3⟩
  · intro h hz
    have key : ∀ i, (bsB (2 ^ d) &&& drB s 2 7).testBit i = false := fun i => by rw [hz]; exact Nat.zero_testBit i
    rcases h with ⟨h1, h2⟩ | ⟨h1, h2⟩
    · have k := key (d - 1)
      rw [Nat.testBit_and, bsB_bit, drB_bit] at k
      simp only [Nat.testBit_two_pow, Bool.and_eq_false_iff, Bool.or_eq_false_iff, decide_eq_false_iff_not] at k
      rcases k with k | k
      · omega
      · exact k ⟨by omega, h2⟩
    · have k := key (d + 1)
      rw [Nat.testBit_and, bsB_bit, drB_bit] at k
      simp only [Nat.testBit_two_pow, Bool.and_eq_false_iff, Bool.or_eq_false_iff, decide_eq_false_iff_not] at k
      rcases k with k | k
      · omega
      · exact k ⟨by omega, h2⟩

theorem sumW_rng (w s : Int) : ∀ m : Nat, 0 ≤ sumW w s m ∧ sumW w s m ≤ 4 * m
  | 0 => ⟨Int.le_refl _, Int.le_refl _⟩
  | m + 1 => by
    have ih := sumW_rng w s m
    have h1 := dg_rng w m
    have h2 := dg_rng s m
    have h3 : 0 ≤ dg w m * dg s m := Int.mul_nonneg h1.1 h2.1
    have h4 : dg w m * dg s m ≤ 2 * 2 := Int.mul_le_mul h1.2 h2.2 h2.1 (by decide)
    rw [sumW]
    omega
set_option maxRecDepth 100000 in
theorem lp_power {n : Nat} {w : vWd} {d : Int} (hd : 0 ≤ d ∧ d ≤ 7) : ∀ (m : Nat) (i : Int), 0 ≤ i → i ≤ d → (d - i).toNat < m →
    V mX5_power (rm 0) (pR (vI (p3 d.toNat)) n w) 4 [some (vI d), some (vI (p3 i.toNat)), some (vI i)] [] n w 0 0 := by
  intro m
  induction m with
  | zero => intro i h1 h2 h3; omega
  | succ m ih =>
    intro i hi hi2 hm
    refine V_iload_n (Y := mX5_power) (pc := 4) dX5_power_4 rfl ?_
    refine V_iload_n (Y := mX5_power) (pc := 5) dX5_power_5 rfl ?_
    refine V_icmp_ge (tgt := 25) (Y := mX5_power) (pc := 6) dX5_power_6 (by decide) ⟨by omega, by omega⟩ ⟨by omega, by omega⟩ (fun h_6 => ?_) (fun h_6 => ?_)
    · refine V_iload_n (Y := mX5_power) (pc := 25) dX5_power_25 rfl ?_
      refine V_iret (Y := mX5_power) (pc := 26) dX5_power_26 rfl (Nat.le_of_ble_eq_true rfl) (Nat.le_of_ble_eq_true rfl) ?_
      exact pR_I (by rw [show i = d by omega])
    · refine V_iload_n (Y := mX5_power) (pc := 9) dX5_power_9 rfl ?_
      refine V_bipush (Y := mX5_power) (pc := 10) dX5_power_10 ⟨by decide, by decide⟩ ?_
      refine V_icmp_ge (tgt := 25) (Y := mX5_power) (pc := 12) dX5_power_12 (by decide) ⟨by omega, by omega⟩ ⟨by omega, by omega⟩ (fun h_12 => absurd h_12 (by omega)) (fun h_12 => ?_)
      refine V_iload_n (Y := mX5_power) (pc := 15) dX5_power_15 rfl ?_
      refine V_iconst (Y := mX5_power) (pc := 16) dX5_power_16 ?_
      refine V_imul (Y := mX5_power) (pc := 17) dX5_power_17 ?_
      refine V_istore_n (Y := mX5_power) (pc := 18) dX5_power_18 rfl ?_
      refine V_iinc (Y := mX5_power) (pc := 19) dX5_power_19 rfl rfl ?_
      refine V_goto (tgt := 4) (Y := mX5_power) (pc := 22) dX5_power_22 (by decide) ?_
      have e : p3 (i + 1).toNat = p3 i.toNat * 3 := by rw [show (i + 1).toNat = i.toNat + 1 by omega, p3_succ]
      rw [← e]
      exact ih (i + 1) (by omega) (by omega) (by omega)
set_option maxRecDepth 100000 in
theorem c_power {n : Nat} {w : vWd} {d : Int} (hd : 0 ≤ d ∧ d ≤ 7) : Ctr mX5_power (rm 0) [vI d] n w (pR (vI (p3 d.toNat)) n w) := by
  refine Ctr_of (lv := [some (vI d), none, none]) (by decide +kernel) rfl rfl ?_
  refine V_iconst (Y := mX5_power) (pc := 0) dX5_power_0 ?_
  refine V_istore_n (Y := mX5_power) (pc := 1) dX5_power_1 rfl ?_
  refine V_iconst (Y := mX5_power) (pc := 2) dX5_power_2 ?_
  refine V_istore_n (Y := mX5_power) (pc := 3) dX5_power_3 rfl ?_
  exact lp_power hd (d.toNat + 1) 0 (by omega) (by omega) (by omega)
set_option maxRecDepth 100000 in
theorem lp_outIn {n : Nat} {w : vWd} {s d : Int} (hs : 0 ≤ s) (hs2 : inR s) (hd : 0 ≤ d ∧ d ≤ 7) : ∀ (m : Nat) (i : Int), 0 ≤ i → i ≤ d → (d - i).toNat < m →
    V mX5_outIn (rm 0) (pR (vI (dg s d.toNat)) n w) 4 [some (vI s), some (vI d), some (vI (sd s i.toNat)), some (vI i)] [] n w 0 0 := by
  intro m
  induction m with
  | zero => intro i h1 h2 h3; omega
  | succ m ih =>
    intro i hi hi2 hm
    have hr := sd_rng hs i.toNat
    refine V_iload_n (Y := mX5_outIn) (pc := 4) dX5_outIn_4 rfl ?_
    refine V_iload_n (Y := mX5_outIn) (pc := 5) dX5_outIn_5 rfl ?_
    refine V_icmp_ge (tgt := 25) (Y := mX5_outIn) (pc := 6) dX5_outIn_6 (by decide) ⟨by omega, by omega⟩ ⟨by omega, by omega⟩ (fun h_6 => ?_) (fun h_6 => ?_)
    · refine V_iload_n (Y := mX5_outIn) (pc := 25) dX5_outIn_25 rfl ?_
      refine V_iconst (Y := mX5_outIn) (pc := 26) dX5_outIn_26 ?_
      refine V_irem (Y := mX5_outIn) (pc := 27) dX5_outIn_27 ⟨by omega, by omega⟩ (by omega) ⟨by decide, by decide⟩ (by decide) ?_
      refine V_iret (Y := mX5_outIn) (pc := 28) dX5_outIn_28 rfl (Nat.le_of_ble_eq_true rfl) (Nat.le_of_ble_eq_true rfl) ?_
      exact pR_I (by rw [show i = d by omega]; rfl)
    · refine V_iload_n (Y := mX5_outIn) (pc := 9) dX5_outIn_9 rfl ?_
      refine V_bipush (Y := mX5_outIn) (pc := 10) dX5_outIn_10 ⟨by decide, by decide⟩ ?_
      refine V_icmp_ge (tgt := 25) (Y := mX5_outIn) (pc := 12) dX5_outIn_12 (by decide) ⟨by omega, by omega⟩ ⟨by omega, by omega⟩ (fun h_12 => absurd h_12 (by omega)) (fun h_12 => ?_)
      refine V_iload_n (Y := mX5_outIn) (pc := 15) dX5_outIn_15 rfl ?_
      refine V_iconst (Y := mX5_outIn) (pc := 16) dX5_outIn_16 ?_
      refine V_idiv (Y := mX5_outIn) (pc := 17) dX5_outIn_17 ⟨by omega, by omega⟩ (by omega) ⟨by decide, by decide⟩ (by decide) ?_
      refine V_istore_n (Y := mX5_outIn) (pc := 18) dX5_outIn_18 rfl ?_
      refine V_iinc (Y := mX5_outIn) (pc := 19) dX5_outIn_19 rfl rfl ?_
      refine V_goto (tgt := 4) (Y := mX5_outIn) (pc := 22) dX5_outIn_22 (by decide) ?_
      have e : sd s (i + 1).toNat = sd s i.toNat / 3 := by rw [show (i + 1).toNat = i.toNat + 1 by omega, sd_succ]
      rw [← e]
      exact ih (i + 1) (by omega) (by omega) (by omega)
set_option maxRecDepth 100000 in
theorem c_outIn {n : Nat} {w : vWd} {s d : Int} (hs : 0 ≤ s) (hs2 : inR s) (hd : 0 ≤ d ∧ d ≤ 7) : Ctr mX5_outIn (rm 0) [vI s, vI d] n w (pR (vI (dg s d.toNat)) n w) := by
  refine Ctr_of (lv := [some (vI s), some (vI d), none, none]) (by decide +kernel) rfl rfl ?_
  have h0 := lp_outIn (n := n) (w := w) hs hs2 hd (d.toNat + 1) 0 (by omega) (by omega) (by omega)
  rw [show (0 : Int).toNat = 0 from rfl, sd_0] at h0
  refine V_iload_n (Y := mX5_outIn) (pc := 0) dX5_outIn_0 rfl ?_
  refine V_istore_n (Y := mX5_outIn) (pc := 1) dX5_outIn_1 rfl ?_
  refine V_iconst (Y := mX5_outIn) (pc := 2) dX5_outIn_2 ?_
  refine V_istore_n (Y := mX5_outIn) (pc := 3) dX5_outIn_3 rfl ?_
  exact h0
set_option maxRecDepth 100000 in
theorem c_moved {n : Nat} {w : vWd} {s d v : Int} (hs : 0 ≤ s) (hs2 : inR s) (hd : 0 ≤ d ∧ d ≤ 7) (hv : -2 ≤ v ∧ v ≤ 2) : Ctr mX5_moved (rm 1) [vI s, vI d, vI v] n w (pR (vI (mv s d.toNat v)) n w) := by
  refine Ctr_of (lv := [some (vI s), some (vI d), some (vI v), none, none]) (by decide +kernel) rfl rfl ?_
  have hg := dg_rng s d.toNat
  refine V_iload_n (Y := mX5_moved) (pc := 0) dX5_moved_0 rfl ?_
  refine V_iload_n (Y := mX5_moved) (pc := 1) dX5_moved_1 rfl ?_
  apply V_sR (Y := mX5_moved) (pc := 2) dX5_moved_2 ok_X5_outIn os_X5_outIn ln_X5_157 (c_outIn hs hs2 hd)
  · rfl
  · rfl
  · rfl
  refine V_istore_n (Y := mX5_moved) (pc := 5) dX5_moved_5 rfl ?_
  refine V_iconst (Y := mX5_moved) (pc := 6) dX5_moved_6 ?_
  refine V_iconst (Y := mX5_moved) (pc := 7) dX5_moved_7 ?_
  refine V_iload_n (Y := mX5_moved) (pc := 8) dX5_moved_8 rfl ?_
  refine V_iload_n (Y := mX5_moved) (pc := 9) dX5_moved_9 rfl ?_
  refine V_iadd (Y := mX5_moved) (pc := 10) dX5_moved_10 ?_
  apply V_sR (Y := mX5_moved) (pc := 11) dX5_moved_11 ok_J9_min_7cf53 os_J9_min_7cf53 ln_X5_304 (c_min (a := 2) (b := dg s d.toNat + v) ⟨by omega, by omega⟩ ⟨by omega, by omega⟩)
  · rfl
  · rfl
  · rfl
  apply V_sR (Y := mX5_moved) (pc := 14) dX5_moved_14 ok_J9_max_7cf53 os_J9_max_7cf53 ln_X5_202 (c_max (a := 0) (b := min 2 (dg s d.toNat + v)) ⟨by omega, by omega⟩ ⟨by omega, by omega⟩)
  · rfl
  · rfl
  · rfl
  refine V_istore (Y := mX5_moved) (pc := 17) dX5_moved_17 rfl ?_
  refine V_iload_n (Y := mX5_moved) (pc := 19) dX5_moved_19 rfl ?_
  refine V_iload (Y := mX5_moved) (pc := 20) dX5_moved_20 rfl ?_
  refine V_iload_n (Y := mX5_moved) (pc := 22) dX5_moved_22 rfl ?_
  refine V_isub (Y := mX5_moved) (pc := 23) dX5_moved_23 ?_
  refine V_iload_n (Y := mX5_moved) (pc := 24) dX5_moved_24 rfl ?_
  apply V_sR (Y := mX5_moved) (pc := 25) dX5_moved_25 ok_X5_power os_X5_power ln_X5_307 (c_power hd)
  · rfl
  · rfl
  · rfl
  refine V_imul (Y := mX5_moved) (pc := 28) dX5_moved_28 ?_
  refine V_iadd (Y := mX5_moved) (pc := 29) dX5_moved_29 ?_
  refine V_iret (Y := mX5_moved) (pc := 30) dX5_moved_30 rfl (Nat.le_of_ble_eq_true rfl) (Nat.le_of_ble_eq_true rfl) ?_
  exact pR_I rfl
set_option maxRecDepth 100000 in
theorem lp_drawersOut {n : Nat} {w : vWd} {s v : Int} (hs : 0 ≤ s) (hs2 : inR s) (hv : inR v) : ∀ (m : Nat) (i : Int), 0 ≤ i → i ≤ 7 → (7 - i).toNat < m →
    V mX5_drawersOut (rm 0) (pR (vI (drB s v 7 : Nat)) n w) 7 [some (vI s), some (vI v), some (vI (drB s v i.toNat : Nat)), some (vI (sd s i.toNat)), some (vI i)] [] n w 0 0 := by
  intro m
  induction m with
  | zero => intro i h1 h2 h3; omega
  | succ m ih =>
    intro i hi hi2 hm
    have hr := sd_rng hs i.toNat
    refine V_iload (Y := mX5_drawersOut) (pc := 7) dX5_drawersOut_7 rfl ?_
    refine V_bipush (Y := mX5_drawersOut) (pc := 9) dX5_drawersOut_9 ⟨by decide, by decide⟩ ?_
    refine V_icmp_ge (tgt := 38) (Y := mX5_drawersOut) (pc := 11) dX5_drawersOut_11 (by decide) ⟨by omega, by omega⟩ ⟨by omega, by omega⟩ (fun h_11 => ?_) (fun h_11 => ?_)
    · refine V_iload_n (Y := mX5_drawersOut) (pc := 38) dX5_drawersOut_38 rfl ?_
      refine V_iret (Y := mX5_drawersOut) (pc := 39) dX5_drawersOut_39 rfl (Nat.le_of_ble_eq_true rfl) (Nat.le_of_ble_eq_true rfl) ?_
      exact pR_I (by rw [show i = 7 by omega]; rfl)
    · refine V_iload_n (Y := mX5_drawersOut) (pc := 14) dX5_drawersOut_14 rfl ?_
      refine V_iconst (Y := mX5_drawersOut) (pc := 15) dX5_drawersOut_15 ?_
      refine V_irem (Y := mX5_drawersOut) (pc := 16) dX5_drawersOut_16 ⟨by omega, by omega⟩ (by omega) ⟨by decide, by decide⟩ (by decide) ?_
      refine V_iload_n (Y := mX5_drawersOut) (pc := 17) dX5_drawersOut_17 rfl ?_
      refine V_icmp_ne (tgt := 28) (Y := mX5_drawersOut) (pc := 18) dX5_drawersOut_18 (by decide) ⟨by omega, by omega⟩ ⟨by omega, by omega⟩ (fun h_18 => ?_) (fun h_18 => ?_)
      · refine V_iload_n (Y := mX5_drawersOut) (pc := 28) dX5_drawersOut_28 rfl ?_
        refine V_iconst (Y := mX5_drawersOut) (pc := 29) dX5_drawersOut_29 ?_
        refine V_idiv (Y := mX5_drawersOut) (pc := 30) dX5_drawersOut_30 ⟨by omega, by omega⟩ (by omega) ⟨by decide, by decide⟩ (by decide) ?_
        refine V_istore_n (Y := mX5_drawersOut) (pc := 31) dX5_drawersOut_31 rfl ?_
        refine V_iinc (Y := mX5_drawersOut) (pc := 32) dX5_drawersOut_32 rfl rfl ?_
        refine V_goto (tgt := 7) (Y := mX5_drawersOut) (pc := 35) dX5_drawersOut_35 (by decide) ?_
        have e : sd s (i + 1).toNat = sd s i.toNat / 3 := by rw [show (i + 1).toNat = i.toNat + 1 by omega, sd_succ]
        have e2 : drB s v (i + 1).toNat = drB s v i.toNat ||| (if sd s i.toNat % 3 = v then 2 ^ i.toNat else 0) := by rw [show (i + 1).toNat = i.toNat + 1 by omega]; rfl
        have k := ih (i + 1) (by omega) (by omega) (by omega)
        rw [e, e2] at k
        first
          | (rw [if_neg h_18, Nat.or_zero] at k; exact k)
          | (rw [if_pos h_18] at k; exact k)
      · refine V_iload_n (Y := mX5_drawersOut) (pc := 21) dX5_drawersOut_21 rfl ?_
        refine V_iconst (Y := mX5_drawersOut) (pc := 22) dX5_drawersOut_22 ?_
        refine V_iload (Y := mX5_drawersOut) (pc := 23) dX5_drawersOut_23 rfl ?_
        refine V_ishl (Y := mX5_drawersOut) (pc := 25) dX5_drawersOut_25 (iI_shl1 (by omega) (by omega)) ?_
        refine V_ior (Y := mX5_drawersOut) (pc := 26) dX5_drawersOut_26 (iI_or _ _) ?_
        refine V_istore_n (Y := mX5_drawersOut) (pc := 27) dX5_drawersOut_27 rfl ?_
        refine V_iload_n (Y := mX5_drawersOut) (pc := 28) dX5_drawersOut_28 rfl ?_
        refine V_iconst (Y := mX5_drawersOut) (pc := 29) dX5_drawersOut_29 ?_
        refine V_idiv (Y := mX5_drawersOut) (pc := 30) dX5_drawersOut_30 ⟨by omega, by omega⟩ (by omega) ⟨by decide, by decide⟩ (by decide) ?_
        refine V_istore_n (Y := mX5_drawersOut) (pc := 31) dX5_drawersOut_31 rfl ?_
        refine V_iinc (Y := mX5_drawersOut) (pc := 32) dX5_drawersOut_32 rfl rfl ?_
        refine V_goto (tgt := 7) (Y := mX5_drawersOut) (pc := 35) dX5_drawersOut_35 (by decide) ?_
        have e : sd s (i + 1).toNat = sd s i.toNat / 3 := by rw [show (i + 1).toNat = i.toNat + 1 by omega, sd_succ]
        have e2 : drB s v (i + 1).toNat = drB s v i.toNat ||| (if sd s i.toNat % 3 = v then 2 ^ i.toNat else 0) := by rw [show (i + 1).toNat = i.toNat + 1 by omega]; rfl
        have k := ih (i + 1) (by omega) (by omega) (by omega)
        rw [e, e2] at k
        first
          | (rw [if_neg h_18, Nat.or_zero] at k; exact k)
          | (rw [if_pos h_18] at k; exact k)
set_option maxRecDepth 100000 in
theorem c_drawersOut {n : Nat} {w : vWd} {s v : Int} (hs : 0 ≤ s) (hs2 : inR s) (hv : inR v) : Ctr mX5_drawersOut (rm 0) [vI s, vI v] n w (pR (vI (drB s v 7 : Nat)) n w) := by
  refine Ctr_of (lv := [some (vI s), some (vI v), none, none, none]) (by decide +kernel) rfl rfl ?_
  have h0 := lp_drawersOut (n := n) (w := w) hs hs2 hv 8 0 (by omega) (by omega) (by omega)
  rw [show (0 : Int).toNat = 0 from rfl, sd_0] at h0
  refine V_iconst (Y := mX5_drawersOut) (pc := 0) dX5_drawersOut_0 ?_
  refine V_istore_n (Y := mX5_drawersOut) (pc := 1) dX5_drawersOut_1 rfl ?_
  refine V_iload_n (Y := mX5_drawersOut) (pc := 2) dX5_drawersOut_2 rfl ?_
  refine V_istore_n (Y := mX5_drawersOut) (pc := 3) dX5_drawersOut_3 rfl ?_
  refine V_iconst (Y := mX5_drawersOut) (pc := 4) dX5_drawersOut_4 ?_
  refine V_istore (Y := mX5_drawersOut) (pc := 5) dX5_drawersOut_5 rfl ?_
  exact h0
set_option maxRecDepth 100000 in
theorem c_beside {n : Nat} {w : vWd} {a : Nat} (ha : a < 1073741824) : Ctr mX5_beside (rm 0) [vI (a : Nat)] n w (pR (vI (bsB a : Nat)) n w) := by
  refine Ctr_of (lv := [some (vI (a : Nat))]) (by decide +kernel) rfl rfl ?_
  refine V_iload_n (Y := mX5_beside) (pc := 0) dX5_beside_0 rfl ?_
  refine V_iconst (Y := mX5_beside) (pc := 1) dX5_beside_1 ?_
  refine V_ishl (Y := mX5_beside) (pc := 2) dX5_beside_2 (iI_shl (d := 1) (by decide) (by decide) (by show a * 2 < 4294967296; omega)) ?_
  refine V_iload_n (Y := mX5_beside) (pc := 3) dX5_beside_3 rfl ?_
  refine V_iconst (Y := mX5_beside) (pc := 4) dX5_beside_4 ?_
  refine V_ishr (Y := mX5_beside) (pc := 5) dX5_beside_5 (iI_shr (d := 1) (by decide) (by decide) (by omega)) ?_
  refine V_ior (Y := mX5_beside) (pc := 6) dX5_beside_6 (iI_or _ _) ?_
  refine V_iret (Y := mX5_beside) (pc := 7) dX5_beside_7 rfl (Nat.le_of_ble_eq_true rfl) (Nat.le_of_ble_eq_true rfl) ?_
  exact pR_I rfl
set_option maxRecDepth 100000 in
theorem c_isOpenBeside {n : Nat} {w : vWd} {s d : Int} (hs : 0 ≤ s) (hs2 : inR s) (hd : 0 ≤ d ∧ d < 7) : Ctr mX5_isOpenBeside (rm 1) [vI s, vI d] n w (pR (vI (bI (opB s d.toNat))) n w) := by
  refine Ctr_of (lv := [some (vI s), some (vI d)]) (by decide +kernel) rfl rfl ?_
  have hp : (2 : Nat) ^ d.toNat < 2 ^ 7 := Nat.pow_lt_pow_right (by decide) (by omega)
  have ho := opB_iff s (d := d.toNat) (by omega)
  have hlt : (bsB (2 ^ d.toNat) &&& drB s 2 7) < 2 ^ 7 := Nat.lt_of_le_of_lt Nat.and_le_right (drB_lt s 2 7)
  refine V_iconst (Y := mX5_isOpenBeside) (pc := 0) dX5_isOpenBeside_0 ?_
  refine V_iload_n (Y := mX5_isOpenBeside) (pc := 1) dX5_isOpenBeside_1 rfl ?_
  refine V_ishl (Y := mX5_isOpenBeside) (pc := 2) dX5_isOpenBeside_2 (iI_shl1 (by omega) (by omega)) ?_
  apply V_sR (Y := mX5_isOpenBeside) (pc := 3) dX5_isOpenBeside_3 ok_X5_beside os_X5_beside ln_X5_310 (c_beside (a := 2 ^ d.toNat) (by omega))
  · rfl
  · rfl
  · rfl
  refine V_iload_n (Y := mX5_isOpenBeside) (pc := 6) dX5_isOpenBeside_6 rfl ?_
  refine V_iconst (Y := mX5_isOpenBeside) (pc := 7) dX5_isOpenBeside_7 ?_
  apply V_sR (Y := mX5_isOpenBeside) (pc := 8) dX5_isOpenBeside_8 ok_X5_drawersOut os_X5_drawersOut ln_X5_313 (c_drawersOut (v := 2) hs hs2 ⟨by omega, by omega⟩)
  · rfl
  · rfl
  · rfl
  refine V_iand (Y := mX5_isOpenBeside) (pc := 11) dX5_isOpenBeside_11 (iI_and _ _) ?_
  refine V_if_eq (tgt := 19) (Y := mX5_isOpenBeside) (pc := 12) dX5_isOpenBeside_12 (by decide) ⟨by omega, by omega⟩ (fun h_12 => ?_) (fun h_12 => ?_)
  · refine V_iconst (Y := mX5_isOpenBeside) (pc := 19) dX5_isOpenBeside_19 ?_
    refine V_zret (ty := .boolean) (Y := mX5_isOpenBeside) (pc := 20) dX5_isOpenBeside_20 rfl rfl (Nat.le_of_ble_eq_true rfl) (Nat.le_of_ble_eq_true rfl) ?_
    first | exact pR_I (bI_t (ho.mp (by omega))).symm | exact pR_I (bI_f (fun z => (ho.mpr z) (by omega))).symm
  · refine V_iconst (Y := mX5_isOpenBeside) (pc := 15) dX5_isOpenBeside_15 ?_
    refine V_goto (tgt := 20) (Y := mX5_isOpenBeside) (pc := 16) dX5_isOpenBeside_16 (by decide) ?_
    refine V_zret (ty := .boolean) (Y := mX5_isOpenBeside) (pc := 20) dX5_isOpenBeside_20 rfl rfl (Nat.le_of_ble_eq_true rfl) (Nat.le_of_ble_eq_true rfl) ?_
    first | exact pR_I (bI_t (ho.mp (by omega))).symm | exact pR_I (bI_f (fun z => (ho.mpr z) (by omega))).symm
set_option maxRecDepth 100000 in
theorem lp_sumOf {n : Nat} {w : vWd} {x s : Int} (hx : 0 ≤ x) (hx2 : inR x) (hs : 0 ≤ s) (hs2 : inR s) : ∀ (m : Nat) (i : Int), 0 ≤ i → i ≤ 7 → (7 - i).toNat < m →
    V mX5_sumOf (rm 0) (pR (vI (sumW x s 7 % 3)) n w) 10 [some (vI x), some (vI s), some (vI (sumW x s i.toNat)), some (vI (sd x i.toNat)), some (vI (sd s i.toNat)), some (vI i)] [] n w 0 0 := by
  intro m
  induction m with
  | zero => intro i h1 h2 h3; omega
  | succ m ih =>
    intro i hi hi2 hm
    have hr := sd_rng hs i.toNat
    have hr2 := sd_rng hx i.toNat
    have hr3 := sumW_rng x s i.toNat
    refine V_iload (Y := mX5_sumOf) (pc := 10) dX5_sumOf_10 rfl ?_
    refine V_bipush (Y := mX5_sumOf) (pc := 12) dX5_sumOf_12 ⟨by decide, by decide⟩ ?_
    refine V_icmp_ge (tgt := 44) (Y := mX5_sumOf) (pc := 14) dX5_sumOf_14 (by decide) ⟨by omega, by omega⟩ ⟨by omega, by omega⟩ (fun h_14 => ?_) (fun h_14 => ?_)
    · refine V_iload_n (Y := mX5_sumOf) (pc := 44) dX5_sumOf_44 rfl ?_
      refine V_iconst (Y := mX5_sumOf) (pc := 45) dX5_sumOf_45 ?_
      refine V_irem (Y := mX5_sumOf) (pc := 46) dX5_sumOf_46 ⟨by omega, by omega⟩ (by omega) ⟨by decide, by decide⟩ (by decide) ?_
      refine V_iret (Y := mX5_sumOf) (pc := 47) dX5_sumOf_47 rfl (Nat.le_of_ble_eq_true rfl) (Nat.le_of_ble_eq_true rfl) ?_
      exact pR_I (by rw [show i = 7 by omega]; rfl)
    · refine V_iload_n (Y := mX5_sumOf) (pc := 17) dX5_sumOf_17 rfl ?_
      refine V_iload_n (Y := mX5_sumOf) (pc := 18) dX5_sumOf_18 rfl ?_
      refine V_iconst (Y := mX5_sumOf) (pc := 19) dX5_sumOf_19 ?_
      refine V_irem (Y := mX5_sumOf) (pc := 20) dX5_sumOf_20 ⟨by omega, by omega⟩ (by omega) ⟨by decide, by decide⟩ (by decide) ?_
      refine V_iload (Y := mX5_sumOf) (pc := 21) dX5_sumOf_21 rfl ?_
      refine V_iconst (Y := mX5_sumOf) (pc := 23) dX5_sumOf_23 ?_
      refine V_irem (Y := mX5_sumOf) (pc := 24) dX5_sumOf_24 ⟨by omega, by omega⟩ (by omega) ⟨by decide, by decide⟩ (by decide) ?_
      refine V_imul (Y := mX5_sumOf) (pc := 25) dX5_sumOf_25 ?_
      refine V_iadd (Y := mX5_sumOf) (pc := 26) dX5_sumOf_26 ?_
      refine V_istore_n (Y := mX5_sumOf) (pc := 27) dX5_sumOf_27 rfl ?_
      refine V_iload_n (Y := mX5_sumOf) (pc := 28) dX5_sumOf_28 rfl ?_
      refine V_iconst (Y := mX5_sumOf) (pc := 29) dX5_sumOf_29 ?_
      refine V_idiv (Y := mX5_sumOf) (pc := 30) dX5_sumOf_30 ⟨by omega, by omega⟩ (by omega) ⟨by decide, by decide⟩ (by decide) ?_
      refine V_istore_n (Y := mX5_sumOf) (pc := 31) dX5_sumOf_31 rfl ?_
      refine V_iload (Y := mX5_sumOf) (pc := 32) dX5_sumOf_32 rfl ?_
      refine V_iconst (Y := mX5_sumOf) (pc := 34) dX5_sumOf_34 ?_
      refine V_idiv (Y := mX5_sumOf) (pc := 35) dX5_sumOf_35 ⟨by omega, by omega⟩ (by omega) ⟨by decide, by decide⟩ (by decide) ?_
      refine V_istore (Y := mX5_sumOf) (pc := 36) dX5_sumOf_36 rfl ?_
      refine V_iinc (Y := mX5_sumOf) (pc := 38) dX5_sumOf_38 rfl rfl ?_
      refine V_goto (tgt := 10) (Y := mX5_sumOf) (pc := 41) dX5_sumOf_41 (by decide) ?_
      have k := ih (i + 1) (by omega) (by omega) (by omega)
      rw [show (i + 1).toNat = i.toNat + 1 by omega, sd_succ, sd_succ] at k
      exact k
set_option maxRecDepth 100000 in
theorem c_sumOf {n : Nat} {w : vWd} {x s : Int} (hx : 0 ≤ x) (hx2 : inR x) (hs : 0 ≤ s) (hs2 : inR s) : Ctr mX5_sumOf (rm 0) [vI x, vI s] n w (pR (vI (sumW x s 7 % 3)) n w) := by
  refine Ctr_of (lv := [some (vI x), some (vI s), none, none, none, none]) (by decide +kernel) rfl rfl ?_
  have h0 := lp_sumOf (n := n) (w := w) hx hx2 hs hs2 8 0 (by omega) (by omega) (by omega)
  rw [show (0 : Int).toNat = 0 from rfl, sd_0, sd_0] at h0
  refine V_iconst (Y := mX5_sumOf) (pc := 0) dX5_sumOf_0 ?_
  refine V_istore_n (Y := mX5_sumOf) (pc := 1) dX5_sumOf_1 rfl ?_
  refine V_iload_n (Y := mX5_sumOf) (pc := 2) dX5_sumOf_2 rfl ?_
  refine V_istore_n (Y := mX5_sumOf) (pc := 3) dX5_sumOf_3 rfl ?_
  refine V_iload_n (Y := mX5_sumOf) (pc := 4) dX5_sumOf_4 rfl ?_
  refine V_istore (Y := mX5_sumOf) (pc := 5) dX5_sumOf_5 rfl ?_
  refine V_iconst (Y := mX5_sumOf) (pc := 7) dX5_sumOf_7 ?_
  refine V_istore (Y := mX5_sumOf) (pc := 8) dX5_sumOf_8 rfl ?_
  exact h0
end
