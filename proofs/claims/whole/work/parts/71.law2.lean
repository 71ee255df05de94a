/-! ===== the law: its cases, on ===== -/
section LAW
variable {L : Nat} {xs : Nat → Int32} {i : Int} {w : vWd}
set_option maxRecDepth 100000 in
theorem lw_c15 (hL : L ≤ 2560) (hi : 0 ≤ i ∧ i + 5 ≤ L) (h : LI w) (K : ∀ w', LI w' → VX L xs 955 [some (.retAddr 11), some (.ref 0), some (.ref 99), some (vI i)] [] 111 w' 111 48738) : VX L xs 649 [some (.retAddr 11), some (.ref 0), some (.ref 99), some (vI i)] [] 111 w 111 48738 := by
  obtain ⟨n, now, ca, po, fo, rs, S0, S1, k0, k1, rb, rn, rf, tx, hX, hM, hG, hG0, hG1, hby⟩ := h
  obtain ⟨_, _, _, _, _, _, hk0, hk1, _, _⟩ := hM.2.2.2.1
  refine VX_aload_n (pc := 649) dL_law_649 rfl ?_
  refine VX_aload_nS (pc := 650) dL_law_650 rfl ?_
  refine VX_iload_n (pc := 651) dL_law_651 rfl ?_
  refine VX_iconst (pc := 652) dL_law_652 ?_
  refine VX_iadd (pc := 653) dL_law_653 ?_
  refine VX_sld (pc := 654) hL ⟨by omega, by omega⟩ dL_law_654 ?_
  apply VX_vI (pc := 655) dL_law_655 ok_X5_reach ov_X5_reach ln_L_82 (cx_reach hX hG (sc_R _ _))
  · exact hX.1
  · rfl
  · rfl
  · rfl
  · rfl
  · rfl
  rintro z1 w1 ⟨rfl, g1, f1⟩
  have M1 := hM.keepX f1
  obtain ⟨a0, sp, tk, vl, mn, fd, sv, ho⟩ := M1.2.1
  refine VX_aload_n (pc := 658) dL_law_658 rfl ?_
  refine VX_aload_nS (pc := 659) dL_law_659 rfl ?_
  refine VX_iload_n (pc := 660) dL_law_660 rfl ?_
  refine VX_iconst (pc := 661) dL_law_661 ?_
  refine VX_iadd (pc := 662) dL_law_662 ?_
  refine VX_sld (pc := 663) hL ⟨by omega, by omega⟩ dL_law_663 ?_
  apply VX_vI (pc := 664) dL_law_664 ok_X6_reach ov_X6_reach ln_L_85 (mx_reach M1 hG (sc_R _ _))
  · exact ho
  · rfl
  · rfl
  · rfl
  · rfl
  · rfl
  rintro z2 w2 ⟨rfl, g2, f2⟩
  have X2 := g1.keepM f2
  refine VX_same (tgt := 955) (pc := 667) dL_law_667 (by decide) ?_
  exact K w2 (LI.mk X2 g2 hG hG0 hG1 hby)
set_option maxRecDepth 100000 in
theorem lw_c16 (hL : L ≤ 2560) (hi : 0 ≤ i ∧ i + 5 ≤ L) (h : LI w) (K : ∀ w', LI w' → VX L xs 955 [some (.retAddr 11), some (.ref 0), some (.ref 99), some (vI i)] [] 111 w' 111 48738) : VX L xs 672 [some (.retAddr 11), some (.ref 0), some (.ref 99), some (vI i)] [] 111 w 111 48738 := by
  obtain ⟨n, now, ca, po, fo, rs, S0, S1, k0, k1, rb, rn, rf, tx, hX, hM, hG, hG0, hG1, hby⟩ := h
  obtain ⟨_, _, _, _, _, _, hk0, hk1, _, _⟩ := hM.2.2.2.1
  refine VX_aload_n (pc := 672) dL_law_672 rfl ?_
  apply VX_vI (pc := 673) dL_law_673 ok_X5_kept ov_X5_kept ln_L_86 (cx_kept hX hG)
  · exact hX.1
  · rfl
  · rfl
  · rfl
  · rfl
  · rfl
  rintro z1 w1 ⟨rfl, g1, f1⟩
  have M1 := hM.keepX f1
  obtain ⟨a0, sp, tk, vl, mn, fd, sv, ho⟩ := M1.2.1
  refine VX_aload_n (pc := 676) dL_law_676 rfl ?_
  apply VX_vI (pc := 677) dL_law_677 ok_X6_kept ov_X6_kept ln_L_89 (mx_kept M1 hG)
  · exact ho
  · rfl
  · rfl
  · rfl
  · rfl
  · rfl
  rintro z2 w2 ⟨rfl, g2, f2⟩
  have X2 := g1.keepM f2
  refine VX_same (tgt := 955) (pc := 680) dL_law_680 (by decide) ?_
  exact K w2 (LI.mk X2 g2 hG hG0 hG1 hby)
set_option maxRecDepth 100000 in
theorem lw_c17 (hL : L ≤ 2560) (hi : 0 ≤ i ∧ i + 5 ≤ L) (h : LI w) (K : ∀ w', LI w' → VX L xs 955 [some (.retAddr 11), some (.ref 0), some (.ref 99), some (vI i)] [] 111 w' 111 48738) : VX L xs 685 [some (.retAddr 11), some (.ref 0), some (.ref 99), some (vI i)] [] 111 w 111 48738 := by
  obtain ⟨n, now, ca, po, fo, rs, S0, S1, k0, k1, rb, rn, rf, tx, hX, hM, hG, hG0, hG1, hby⟩ := h
  obtain ⟨_, _, _, _, _, _, hk0, hk1, _, _⟩ := hM.2.2.2.1
  refine VX_aload_n (pc := 685) dL_law_685 rfl ?_
  apply VX_vI (pc := 686) dL_law_686 ok_X5_cut ov_X5_cut ln_L_90 (cx_cut hX hG)
  · exact hX.1
  · rfl
  · rfl
  · rfl
  · rfl
  · rfl
  rintro z1 w1 ⟨rfl, g1, f1⟩
  have M1 := hM.keepX f1
  obtain ⟨a0, sp, tk, vl, mn, fd, sv, ho⟩ := M1.2.1
  refine VX_aload_n (pc := 689) dL_law_689 rfl ?_
  apply VX_vI (pc := 690) dL_law_690 ok_X6_cut ov_X6_cut ln_L_93 (mx_cut M1 hG)
  · exact ho
  · rfl
  · rfl
  · rfl
  · rfl
  · rfl
  rintro z2 w2 ⟨rfl, g2, f2⟩
  have X2 := g1.keepM f2
  refine VX_same (tgt := 955) (pc := 693) dL_law_693 (by decide) ?_
  exact K w2 (LI.mk X2 g2 hG hG0 hG1 hby)
set_option maxRecDepth 100000 in
theorem lw_c18 (hL : L ≤ 2560) (hi : 0 ≤ i ∧ i + 5 ≤ L) (h : LI w) (K : ∀ w', LI w' → VX L xs 955 [some (.retAddr 11), some (.ref 0), some (.ref 99), some (vI i)] [] 111 w' 111 48738) : VX L xs 698 [some (.retAddr 11), some (.ref 0), some (.ref 99), some (vI i)] [] 111 w 111 48738 := by
  obtain ⟨n, now, ca, po, fo, rs, S0, S1, k0, k1, rb, rn, rf, tx, hX, hM, hG, hG0, hG1, hby⟩ := h
  obtain ⟨_, _, _, _, _, _, hk0, hk1, _, _⟩ := hM.2.2.2.1
  refine VX_aload_n (pc := 698) dL_law_698 rfl ?_
  apply VX_vI (pc := 699) dL_law_699 ok_X5_tie ov_X5_tie ln_L_94 (cx_tie hX hG)
  · exact hX.1
  · rfl
  · rfl
  · rfl
  · rfl
  · rfl
  rintro z1 w1 ⟨rfl, g1, f1⟩
  have M1 := hM.keepX f1
  obtain ⟨a0, sp, tk, vl, mn, fd, sv, ho⟩ := M1.2.1
  refine VX_aload_n (pc := 702) dL_law_702 rfl ?_
  apply VX_vI (pc := 703) dL_law_703 ok_X6_tie ov_X6_tie ln_L_97 (mx_tie M1 hG)
  · exact ho
  · rfl
  · rfl
  · rfl
  · rfl
  · rfl
  rintro z2 w2 ⟨rfl, g2, f2⟩
  have X2 := g1.keepM f2
  refine VX_same (tgt := 955) (pc := 706) dL_law_706 (by decide) ?_
  exact K w2 (LI.mk X2 g2 hG hG0 hG1 hby)
set_option maxRecDepth 100000 in
theorem lw_c19 (hL : L ≤ 2560) (hi : 0 ≤ i ∧ i + 5 ≤ L) (h : LI w) (K : ∀ w', LI w' → VX L xs 955 [some (.retAddr 11), some (.ref 0), some (.ref 99), some (vI i)] [] 111 w' 111 48738) : VX L xs 711 [some (.retAddr 11), some (.ref 0), some (.ref 99), some (vI i)] [] 111 w 111 48738 := by
  obtain ⟨n, now, ca, po, fo, rs, S0, S1, k0, k1, rb, rn, rf, tx, hX, hM, hG, hG0, hG1, hby⟩ := h
  obtain ⟨_, _, _, _, _, _, hk0, hk1, _, _⟩ := hM.2.2.2.1
  refine VX_aload_n (pc := 711) dL_law_711 rfl ?_
  refine VX_aload_nS (pc := 712) dL_law_712 rfl ?_
  refine VX_iload_n (pc := 713) dL_law_713 rfl ?_
  refine VX_iconst (pc := 714) dL_law_714 ?_
  refine VX_iadd (pc := 715) dL_law_715 ?_
  refine VX_sld (pc := 716) hL ⟨by omega, by omega⟩ dL_law_716 ?_
  apply VX_vI (pc := 717) dL_law_717 ok_X5_day ov_X5_day ln_L_98 (cx_day hX hG (sc_R _ _))
  · exact hX.1
  · rfl
  · rfl
  · rfl
  · rfl
  · rfl
  rintro z1 w1 ⟨rfl, g1, f1⟩
  have M1 := hM.keepX f1
  obtain ⟨a0, sp, tk, vl, mn, fd, sv, ho⟩ := M1.2.1
  refine VX_aload_n (pc := 720) dL_law_720 rfl ?_
  refine VX_aload_nS (pc := 721) dL_law_721 rfl ?_
  refine VX_iload_n (pc := 722) dL_law_722 rfl ?_
  refine VX_iconst (pc := 723) dL_law_723 ?_
  refine VX_iadd (pc := 724) dL_law_724 ?_
  refine VX_sld (pc := 725) hL ⟨by omega, by omega⟩ dL_law_725 ?_
  apply VX_vI (pc := 726) dL_law_726 ok_X6_day ov_X6_day ln_L_101 (mx_day M1 hG (sc_R _ _))
  · exact ho
  · rfl
  · rfl
  · rfl
  · rfl
  · rfl
  rintro z2 w2 ⟨rfl, g2, f2⟩
  have X2 := g1.keepM f2
  refine VX_same (tgt := 955) (pc := 729) dL_law_729 (by decide) ?_
  exact K w2 (LI.mk X2 g2 hG hG0 hG1 hby)
set_option maxRecDepth 100000 in
theorem lw_c20 (hL : L ≤ 2560) (hi : 0 ≤ i ∧ i + 5 ≤ L) (h : LI w) (K : ∀ w', LI w' → VX L xs 955 [some (.retAddr 11), some (.ref 0), some (.ref 99), some (vI i)] [] 111 w' 111 48738) : VX L xs 734 [some (.retAddr 11), some (.ref 0), some (.ref 99), some (vI i)] [] 111 w 111 48738 := by
  obtain ⟨n, now, ca, po, fo, rs, S0, S1, k0, k1, rb, rn, rf, tx, hX, hM, hG, hG0, hG1, hby⟩ := h
  obtain ⟨_, _, _, _, _, _, hk0, hk1, _, _⟩ := hM.2.2.2.1
  refine VX_aload_n (pc := 734) dL_law_734 rfl ?_
  apply VX_vI (pc := 735) dL_law_735 ok_X5_laid ov_X5_laid ln_L_102 (cx_laid hX hG)
  · exact hX.1
  · rfl
  · rfl
  · rfl
  · rfl
  · rfl
  rintro z1 w1 ⟨rfl, g1, f1⟩
  have M1 := hM.keepX f1
  obtain ⟨a0, sp, tk, vl, mn, fd, sv, ho⟩ := M1.2.1
  refine VX_aload_n (pc := 738) dL_law_738 rfl ?_
  apply VX_vI (pc := 739) dL_law_739 ok_X6_laid ov_X6_laid ln_L_105 (mx_laid M1 hG)
  · exact ho
  · rfl
  · rfl
  · rfl
  · rfl
  · rfl
  rintro z2 w2 ⟨rfl, g2, f2⟩
  have X2 := g1.keepM f2
  refine VX_same (tgt := 955) (pc := 742) dL_law_742 (by decide) ?_
  exact K w2 (LI.mk X2 g2 hG hG0 hG1 hby)
set_option maxRecDepth 100000 in
theorem lw_c21 (hL : L ≤ 2560) (hi : 0 ≤ i ∧ i + 5 ≤ L) (h : LI w) (K : ∀ w', LI w' → VX L xs 955 [some (.retAddr 11), some (.ref 0), some (.ref 99), some (vI i)] [] 111 w' 111 48738) : VX L xs 747 [some (.retAddr 11), some (.ref 0), some (.ref 99), some (vI i)] [] 111 w 111 48738 := by
  obtain ⟨n, now, ca, po, fo, rs, S0, S1, k0, k1, rb, rn, rf, tx, hX, hM, hG, hG0, hG1, hby⟩ := h
  obtain ⟨_, _, _, _, _, _, hk0, hk1, _, _⟩ := hM.2.2.2.1
  refine VX_aload_n (pc := 747) dL_law_747 rfl ?_
  refine VX_aload_nS (pc := 748) dL_law_748 rfl ?_
  refine VX_iload_n (pc := 749) dL_law_749 rfl ?_
  refine VX_iconst (pc := 750) dL_law_750 ?_
  refine VX_iadd (pc := 751) dL_law_751 ?_
  refine VX_sld (pc := 752) hL ⟨by omega, by omega⟩ dL_law_752 ?_
  apply VX_vI (pc := 753) dL_law_753 ok_X5_danger ov_X5_danger ln_L_106 (cx_danger hX hG (sc_R _ _))
  · exact hX.1
  · rfl
  · rfl
  · rfl
  · rfl
  · rfl
  rintro z1 w1 ⟨rfl, g1, f1⟩
  have M1 := hM.keepX f1
  obtain ⟨a0, sp, tk, vl, mn, fd, sv, ho⟩ := M1.2.1
  refine VX_aload_n (pc := 756) dL_law_756 rfl ?_
  refine VX_aload_nS (pc := 757) dL_law_757 rfl ?_
  refine VX_iload_n (pc := 758) dL_law_758 rfl ?_
  refine VX_iconst (pc := 759) dL_law_759 ?_
  refine VX_iadd (pc := 760) dL_law_760 ?_
  refine VX_sld (pc := 761) hL ⟨by omega, by omega⟩ dL_law_761 ?_
  apply VX_vI (pc := 762) dL_law_762 ok_X6_danger ov_X6_danger ln_L_109 (M1.lift (cm_danger M1.1 hG (sc_R _ _)))
  · exact ho
  · rfl
  · rfl
  · rfl
  · rfl
  · rfl
  rintro z2 w2 ⟨rfl, g2, f2⟩
  have X2 := g1.keepM f2
  refine VX_same (tgt := 955) (pc := 765) dL_law_765 (by decide) ?_
  exact K w2 (LI.mk X2 g2 hG hG0 hG1 hby)
set_option maxRecDepth 100000 in
theorem lw_c22 (hL : L ≤ 2560) (hi : 0 ≤ i ∧ i + 5 ≤ L) (h : LI w) (K : ∀ w', LI w' → VX L xs 955 [some (.retAddr 11), some (.ref 0), some (.ref 99), some (vI i)] [] 111 w' 111 48738) : VX L xs 770 [some (.retAddr 11), some (.ref 0), some (.ref 99), some (vI i)] [] 111 w 111 48738 := by
  obtain ⟨n, now, ca, po, fo, rs, S0, S1, k0, k1, rb, rn, rf, tx, hX, hM, hG, hG0, hG1, hby⟩ := h
  obtain ⟨_, _, _, _, _, _, hk0, hk1, _, _⟩ := hM.2.2.2.1
  refine VX_aload_n (pc := 770) dL_law_770 rfl ?_
  refine VX_aload_nS (pc := 771) dL_law_771 rfl ?_
  refine VX_iload_n (pc := 772) dL_law_772 rfl ?_
  refine VX_iconst (pc := 773) dL_law_773 ?_
  refine VX_iadd (pc := 774) dL_law_774 ?_
  refine VX_sld (pc := 775) hL ⟨by omega, by omega⟩ dL_law_775 ?_
  refine VX_aload_nS (pc := 776) dL_law_776 rfl ?_
  refine VX_iload_n (pc := 777) dL_law_777 rfl ?_
  refine VX_iconst (pc := 778) dL_law_778 ?_
  refine VX_iadd (pc := 779) dL_law_779 ?_
  refine VX_sld (pc := 780) hL ⟨by omega, by omega⟩ dL_law_780 ?_
  apply VX_vI (pc := 781) dL_law_781 ok_X5_sight ov_X5_sight ln_L_110 (cx_sight hX hG (sc_R _ _) (sc_R _ _))
  · exact hX.1
  · rfl
  · rfl
  · rfl
  · rfl
  · rfl
  rintro z1 w1 ⟨rfl, g1, f1⟩
  have M1 := hM.keepX f1
  obtain ⟨a0, sp, tk, vl, mn, fd, sv, ho⟩ := M1.2.1
  refine VX_aload_n (pc := 784) dL_law_784 rfl ?_
  refine VX_aload_nS (pc := 785) dL_law_785 rfl ?_
  refine VX_iload_n (pc := 786) dL_law_786 rfl ?_
  refine VX_iconst (pc := 787) dL_law_787 ?_
  refine VX_iadd (pc := 788) dL_law_788 ?_
  refine VX_sld (pc := 789) hL ⟨by omega, by omega⟩ dL_law_789 ?_
  refine VX_aload_nS (pc := 790) dL_law_790 rfl ?_
  refine VX_iload_n (pc := 791) dL_law_791 rfl ?_
  refine VX_iconst (pc := 792) dL_law_792 ?_
  refine VX_iadd (pc := 793) dL_law_793 ?_
  refine VX_sld (pc := 794) hL ⟨by omega, by omega⟩ dL_law_794 ?_
  apply VX_vI (pc := 795) dL_law_795 ok_X6_sight ov_X6_sight ln_L_113 (M1.lift (cm_sight M1.1 hG (sc_R _ _) (sc_R _ _)))
  · exact ho
  · rfl
  · rfl
  · rfl
  · rfl
  · rfl
  rintro z2 w2 ⟨rfl, g2, f2⟩
  have X2 := g1.keepM f2
  refine VX_same (tgt := 955) (pc := 798) dL_law_798 (by decide) ?_
  exact K w2 (LI.mk X2 g2 (hG.sight1 _ _) hG0 hG1 hby)
set_option maxRecDepth 100000 in
theorem lw_c23 (hL : L ≤ 2560) (hi : 0 ≤ i ∧ i + 5 ≤ L) (h : LI w) (K : ∀ w', LI w' → VX L xs 955 [some (.retAddr 11), some (.ref 0), some (.ref 99), some (vI i)] [] 111 w' 111 48738) : VX L xs 803 [some (.retAddr 11), some (.ref 0), some (.ref 99), some (vI i)] [] 111 w 111 48738 := by
  obtain ⟨n, now, ca, po, fo, rs, S0, S1, k0, k1, rb, rn, rf, tx, hX, hM, hG, hG0, hG1, hby⟩ := h
  obtain ⟨_, _, _, _, _, _, hk0, hk1, _, _⟩ := hM.2.2.2.1
  refine VX_aload_n (pc := 803) dL_law_803 rfl ?_
  refine VX_aload_nS (pc := 804) dL_law_804 rfl ?_
  refine VX_iload_n (pc := 805) dL_law_805 rfl ?_
  refine VX_iconst (pc := 806) dL_law_806 ?_
  refine VX_iadd (pc := 807) dL_law_807 ?_
  refine VX_sld (pc := 808) hL ⟨by omega, by omega⟩ dL_law_808 ?_
  apply VX_vI (pc := 809) dL_law_809 ok_X5_none ov_X5_none ln_L_114 (cx_none hX (sc_R _ _))
  · exact hX.1
  · rfl
  · rfl
  · rfl
  · rfl
  · rfl
  rintro z1 w1 ⟨rfl, g1, f1⟩
  have M1 := hM.keepX f1
  obtain ⟨a0, sp, tk, vl, mn, fd, sv, ho⟩ := M1.2.1
  refine VX_aload_n (pc := 812) dL_law_812 rfl ?_
  refine VX_aload_nS (pc := 813) dL_law_813 rfl ?_
  refine VX_iload_n (pc := 814) dL_law_814 rfl ?_
  refine VX_iconst (pc := 815) dL_law_815 ?_
  refine VX_iadd (pc := 816) dL_law_816 ?_
  refine VX_sld (pc := 817) hL ⟨by omega, by omega⟩ dL_law_817 ?_
  apply VX_vI (pc := 818) dL_law_818 ok_X6_none ov_X6_none ln_L_117 (M1.lift (cn_none M1.1 (sc_R _ _)))
  · exact ho
  · rfl
  · rfl
  · rfl
  · rfl
  · rfl
  rintro z2 w2 ⟨rfl, g2, f2⟩
  have X2 := g1.keepM f2
  refine VX_same (tgt := 955) (pc := 821) dL_law_821 (by decide) ?_
  exact K w2 (LI.mk X2 g2 (hG.none1 _) hG0 hG1 hby)
set_option maxRecDepth 100000 in
theorem lw_c24 (hL : L ≤ 2560) (hi : 0 ≤ i ∧ i + 5 ≤ L) (h : LI w) (K : ∀ w', LI w' → VX L xs 955 [some (.retAddr 11), some (.ref 0), some (.ref 99), some (vI i)] [] 111 w' 111 48738) : VX L xs 826 [some (.retAddr 11), some (.ref 0), some (.ref 99), some (vI i)] [] 111 w 111 48738 := by
  obtain ⟨n, now, ca, po, fo, rs, S0, S1, k0, k1, rb, rn, rf, tx, hX, hM, hG, hG0, hG1, hby⟩ := h
  obtain ⟨_, _, _, _, _, _, hk0, hk1, _, _⟩ := hM.2.2.2.1
  refine VX_aload_n (pc := 826) dL_law_826 rfl ?_
  refine VX_aload_nS (pc := 827) dL_law_827 rfl ?_
  refine VX_iload_n (pc := 828) dL_law_828 rfl ?_
  refine VX_iconst (pc := 829) dL_law_829 ?_
  refine VX_iadd (pc := 830) dL_law_830 ?_
  refine VX_sld (pc := 831) hL ⟨by omega, by omega⟩ dL_law_831 ?_
  apply VX_vI (pc := 832) dL_law_832 ok_X5_fits ov_X5_fits ln_L_118 (cx_fits hX hG (sc_R _ _))
  · exact hX.1
  · rfl
  · rfl
  · rfl
  · rfl
  · rfl
  rintro z1 w1 ⟨rfl, g1, f1⟩
  have M1 := hM.keepX f1
  obtain ⟨a0, sp, tk, vl, mn, fd, sv, ho⟩ := M1.2.1
  refine VX_aload_n (pc := 835) dL_law_835 rfl ?_
  refine VX_aload_nS (pc := 836) dL_law_836 rfl ?_
  refine VX_iload_n (pc := 837) dL_law_837 rfl ?_
  refine VX_iconst (pc := 838) dL_law_838 ?_
  refine VX_iadd (pc := 839) dL_law_839 ?_
  refine VX_sld (pc := 840) hL ⟨by omega, by omega⟩ dL_law_840 ?_
  apply VX_vI (pc := 841) dL_law_841 ok_X6_fits ov_X6_fits ln_L_121 (M1.lift (cm_fits M1.1 hG (sc_R _ _)))
  · exact ho
  · rfl
  · rfl
  · rfl
  · rfl
  · rfl
  rintro z2 w2 ⟨rfl, g2, f2⟩
  have X2 := g1.keepM f2
  refine VX_same (tgt := 955) (pc := 844) dL_law_844 (by decide) ?_
  exact K w2 (LI.mk X2 g2 hG hG0 hG1 hby)
set_option maxRecDepth 100000 in
theorem lw_c25 (hL : L ≤ 2560) (hi : 0 ≤ i ∧ i + 5 ≤ L) (h : LI w) (K : ∀ w', LI w' → VX L xs 955 [some (.retAddr 11), some (.ref 0), some (.ref 99), some (vI i)] [] 111 w' 111 48738) : VX L xs 849 [some (.retAddr 11), some (.ref 0), some (.ref 99), some (vI i)] [] 111 w 111 48738 := by
  obtain ⟨n, now, ca, po, fo, rs, S0, S1, k0, k1, rb, rn, rf, tx, hX, hM, hG, hG0, hG1, hby⟩ := h
  obtain ⟨_, _, _, _, _, _, hk0, hk1, _, _⟩ := hM.2.2.2.1
  refine VX_aload_n (pc := 849) dL_law_849 rfl ?_
  refine VX_aload_nS (pc := 850) dL_law_850 rfl ?_
  refine VX_iload_n (pc := 851) dL_law_851 rfl ?_
  refine VX_iconst (pc := 852) dL_law_852 ?_
  refine VX_iadd (pc := 853) dL_law_853 ?_
  refine VX_sld (pc := 854) hL ⟨by omega, by omega⟩ dL_law_854 ?_
  apply VX_vI (pc := 855) dL_law_855 ok_X5_image ov_X5_image ln_L_122 (cx_image hX (sc_R _ _))
  · exact hX.1
  · rfl
  · rfl
  · rfl
  · rfl
  · rfl
  rintro z1 w1 ⟨rfl, g1, f1⟩
  have M1 := hM.keepX f1
  obtain ⟨a0, sp, tk, vl, mn, fd, sv, ho⟩ := M1.2.1
  refine VX_aload_n (pc := 858) dL_law_858 rfl ?_
  refine VX_aload_nS (pc := 859) dL_law_859 rfl ?_
  refine VX_iload_n (pc := 860) dL_law_860 rfl ?_
  refine VX_iconst (pc := 861) dL_law_861 ?_
  refine VX_iadd (pc := 862) dL_law_862 ?_
  refine VX_sld (pc := 863) hL ⟨by omega, by omega⟩ dL_law_863 ?_
  apply VX_vI (pc := 864) dL_law_864 ok_X6_image ov_X6_image ln_L_125 (mx_image M1 (sc_R _ _))
  · exact ho
  · rfl
  · rfl
  · rfl
  · rfl
  · rfl
  rintro z2 w2 ⟨rfl, g2, f2⟩
  have X2 := g1.keepM f2
  refine VX_same (tgt := 955) (pc := 867) dL_law_867 (by decide) ?_
  exact K w2 (LI.mk X2 g2 hG (fImage_good hG hG0 hG1 _ _ _).1 (fImage_good hG hG0 hG1 _ _ _).2 hby)
set_option maxRecDepth 100000 in
theorem lw_c26 (hL : L ≤ 2560) (hi : 0 ≤ i ∧ i + 5 ≤ L) (h : LI w) (K : ∀ w', LI w' → VX L xs 955 [some (.retAddr 11), some (.ref 0), some (.ref 99), some (vI i)] [] 111 w' 111 48738) : VX L xs 872 [some (.retAddr 11), some (.ref 0), some (.ref 99), some (vI i)] [] 111 w 111 48738 := by
  obtain ⟨n, now, ca, po, fo, rs, S0, S1, k0, k1, rb, rn, rf, tx, hX, hM, hG, hG0, hG1, hby⟩ := h
  obtain ⟨_, _, _, _, _, _, hk0, hk1, _, _⟩ := hM.2.2.2.1
  refine VX_aload_n (pc := 872) dL_law_872 rfl ?_
  refine VX_aload_nS (pc := 873) dL_law_873 rfl ?_
  refine VX_iload_n (pc := 874) dL_law_874 rfl ?_
  refine VX_iconst (pc := 875) dL_law_875 ?_
  refine VX_iadd (pc := 876) dL_law_876 ?_
  refine VX_sld (pc := 877) hL ⟨by omega, by omega⟩ dL_law_877 ?_
  apply VX_vI (pc := 878) dL_law_878 ok_X5_from ov_X5_from ln_L_126 (cx_from hX (sc_R _ _) hk0 hk1)
  · exact hX.1
  · rfl
  · rfl
  · rfl
  · rfl
  · rfl
  rintro z1 w1 ⟨rfl, g1, f1⟩
  have M1 := hM.keepX f1
  obtain ⟨a0, sp, tk, vl, mn, fd, sv, ho⟩ := M1.2.1
  refine VX_aload_n (pc := 881) dL_law_881 rfl ?_
  refine VX_aload_nS (pc := 882) dL_law_882 rfl ?_
  refine VX_iload_n (pc := 883) dL_law_883 rfl ?_
  refine VX_iconst (pc := 884) dL_law_884 ?_
  refine VX_iadd (pc := 885) dL_law_885 ?_
  refine VX_sld (pc := 886) hL ⟨by omega, by omega⟩ dL_law_886 ?_
  apply VX_vI (pc := 887) dL_law_887 ok_X6_from ov_X6_from ln_L_129 (mx_from M1 (sc_R _ _))
  · exact ho
  · rfl
  · rfl
  · rfl
  · rfl
  · rfl
  rintro z2 w2 ⟨rfl, g2, f2⟩
  have X2 := g1.keepM f2
  refine VX_same (tgt := 955) (pc := 890) dL_law_890 (by decide) ?_
  exact K w2 (LI.mk X2 g2 (fFrom_good hG hG0 hG1 _ _ _) hG0 hG1 hby)
set_option maxRecDepth 100000 in
theorem lw_c27 (hL : L ≤ 2560) (hi : 0 ≤ i ∧ i + 5 ≤ L) (h : LI w) (K : ∀ w', LI w' → VX L xs 955 [some (.retAddr 11), some (.ref 0), some (.ref 99), some (vI i)] [] 111 w' 111 48738) : VX L xs 895 [some (.retAddr 11), some (.ref 0), some (.ref 99), some (vI i)] [] 111 w 111 48738 := by
  obtain ⟨n, now, ca, po, fo, rs, S0, S1, k0, k1, rb, rn, rf, tx, hX, hM, hG, hG0, hG1, hby⟩ := h
  obtain ⟨_, _, _, _, _, _, hk0, hk1, _, _⟩ := hM.2.2.2.1
  refine VX_aload_n (pc := 895) dL_law_895 rfl ?_
  refine VX_aload_nS (pc := 896) dL_law_896 rfl ?_
  refine VX_iload_n (pc := 897) dL_law_897 rfl ?_
  refine VX_iconst (pc := 898) dL_law_898 ?_
  refine VX_iadd (pc := 899) dL_law_899 ?_
  refine VX_sld (pc := 900) hL ⟨by omega, by omega⟩ dL_law_900 ?_
  apply VX_vI (pc := 901) dL_law_901 ok_X5_status ov_X5_status ln_L_130 (cx_status hX (sc_R _ _))
  · exact hX.1
  · rfl
  · rfl
  · rfl
  · rfl
  · rfl
  rintro z1 w1 ⟨rfl, g1, f1⟩
  have M1 := hM.keepX f1
  obtain ⟨a0, sp, tk, vl, mn, fd, sv, ho⟩ := M1.2.1
  refine VX_aload_n (pc := 904) dL_law_904 rfl ?_
  refine VX_aload_nS (pc := 905) dL_law_905 rfl ?_
  refine VX_iload_n (pc := 906) dL_law_906 rfl ?_
  refine VX_iconst (pc := 907) dL_law_907 ?_
  refine VX_iadd (pc := 908) dL_law_908 ?_
  refine VX_sld (pc := 909) hL ⟨by omega, by omega⟩ dL_law_909 ?_
  apply VX_vI (pc := 910) dL_law_910 ok_X6_status ov_X6_status ln_L_133 (MInv.liftS M1 (cm_status M1.1 (sc_R _ _)))
  · exact ho
  · rfl
  · rfl
  · rfl
  · rfl
  · rfl
  rintro z2 w2 ⟨rfl, g2, f2⟩
  have X2 := g1.keepM f2
  refine VX_same (tgt := 955) (pc := 913) dL_law_913 (by decide) ?_
  exact K w2 (LI.mk X2 g2 hG hG0 hG1 hby)
set_option maxRecDepth 100000 in
theorem lw_c28 (hL : L ≤ 2560) (hi : 0 ≤ i ∧ i + 5 ≤ L) (h : LI w) (K : ∀ w', LI w' → VX L xs 955 [some (.retAddr 11), some (.ref 0), some (.ref 99), some (vI i)] [] 111 w' 111 48738) : VX L xs 918 [some (.retAddr 11), some (.ref 0), some (.ref 99), some (vI i)] [] 111 w 111 48738 := by
  obtain ⟨n, now, ca, po, fo, rs, S0, S1, k0, k1, rb, rn, rf, tx, hX, hM, hG, hG0, hG1, hby⟩ := h
  obtain ⟨_, _, _, _, _, _, hk0, hk1, _, _⟩ := hM.2.2.2.1
  refine VX_aload_n (pc := 918) dL_law_918 rfl ?_
  refine VX_aload_nS (pc := 919) dL_law_919 rfl ?_
  refine VX_iload_n (pc := 920) dL_law_920 rfl ?_
  refine VX_iconst (pc := 921) dL_law_921 ?_
  refine VX_iadd (pc := 922) dL_law_922 ?_
  refine VX_sld (pc := 923) hL ⟨by omega, by omega⟩ dL_law_923 ?_
  apply VX_vI (pc := 924) dL_law_924 ok_X5_count ov_X5_count ln_L_134 (cx_count hX hG (sc_R _ _))
  · exact hX.1
  · rfl
  · rfl
  · rfl
  · rfl
  · rfl
  rintro z1 w1 ⟨rfl, g1, f1⟩
  have M1 := hM.keepX f1
  obtain ⟨a0, sp, tk, vl, mn, fd, sv, ho⟩ := M1.2.1
  refine VX_aload_n (pc := 927) dL_law_927 rfl ?_
  refine VX_aload_nS (pc := 928) dL_law_928 rfl ?_
  refine VX_iload_n (pc := 929) dL_law_929 rfl ?_
  refine VX_iconst (pc := 930) dL_law_930 ?_
  refine VX_iadd (pc := 931) dL_law_931 ?_
  refine VX_sld (pc := 932) hL ⟨by omega, by omega⟩ dL_law_932 ?_
  apply VX_vI (pc := 933) dL_law_933 ok_X6_count ov_X6_count ln_L_137 (mx_count M1 hG (sc_R _ _))
  · exact ho
  · rfl
  · rfl
  · rfl
  · rfl
  · rfl
  rintro z2 w2 ⟨rfl, g2, f2⟩
  have X2 := g1.keepM f2
  refine VX_same (tgt := 955) (pc := 936) dL_law_936 (by decide) ?_
  exact K w2 (LI.mk X2 g2 hG hG0 hG1 hby)
set_option maxRecDepth 100000 in
theorem lw_c29 (hL : L ≤ 2560) (hi : 0 ≤ i ∧ i + 5 ≤ L) (h : LI w) (K : ∀ w', LI w' → VX L xs 955 [some (.retAddr 11), some (.ref 0), some (.ref 99), some (vI i)] [] 111 w' 111 48738) : VX L xs 941 [some (.retAddr 11), some (.ref 0), some (.ref 99), some (vI i)] [] 111 w 111 48738 := by
  obtain ⟨n, now, ca, po, fo, rs, S0, S1, k0, k1, rb, rn, rf, tx, hX, hM, hG, hG0, hG1, hby⟩ := h
  obtain ⟨_, _, _, _, _, _, hk0, hk1, _, _⟩ := hM.2.2.2.1
  refine VX_aload_n (pc := 941) dL_law_941 rfl ?_
  apply VX_vR (pc := 942) dL_law_942 ok_X5_digest ov_X5_digest ln_L_138 (cx_digest hX hG)
  · exact hX.1
  · rfl
  · rfl
  · rfl
  · rfl
  · rfl
  obtain ⟨a0, sp, tk, vl, mn, fd, sv, ho⟩ := hM.2.1
  have M1 := hM
  refine VX_aload_n (pc := 945) dL_law_945 rfl ?_
  apply VX_vR (pc := 946) dL_law_946 ok_X6_digest ov_X6_digest ln_L_142 (mx_digest M1 hG)
  · exact ho
  · rfl
  · rfl
  · rfl
  · rfl
  · rfl
  refine VX_lcmp (pc := 949) dL_law_949 ?_
  rw [lg_self]
  refine VX_if_eq (tgt := 955) (pc := 950) dL_law_950 (by decide) ⟨by omega, by omega⟩ (fun _ => ?_) (fun q => absurd rfl q)
  exact K w (LI.mk hX hM hG hG0 hG1 hby)
end LAW
