/-! ===== the law: its loop ===== -/
section LAW
variable {L : Nat} {xs : Nat → Int32} {i : Int} {w : vWd}
theorem ge_b (x y : Nat) (h : Nat.ble x y = true) : x ≤ y := Nat.le_of_ble_eq_true h
set_option maxRecDepth 100000 in
theorem lw_loop (hL : L ≤ 2560) : ∀ (m : Nat) (i : Int) (w : vWd), 0 ≤ i → i ≤ (L : Int) + 5 → ((L : Int) + 5 - i).toNat < m → LI w → VX L xs 18 [some (.retAddr 11), some (.ref 0), some (.ref 99), some (vI i)] [] 111 w 111 48738 := by
  intro m
  induction m with
  | zero => intro i w h1 h2 h3; omega
  | succ m ih =>
    intro i w hi0 hi1 hm h
    refine VX_iload_n (pc := 18) dL_law_18 rfl ?_
    refine VX_aload_nS (pc := 19) dL_law_19 rfl ?_
    refine VX_slen (b1 := 0) (pc := 20) hL dL_law_20 ?_
    refine VX_iconst (pc := 21) dL_law_21 ?_
    refine VX_isub (pc := 22) dL_law_22 ?_
    refine VX_icmp_gt (tgt := 961) (pc := 23) dL_law_23 (by decide) ⟨by omega, by omega⟩ ⟨by omega, by omega⟩ (fun _ => ?_) (fun hle => ?_)
    · refine VX_iconst (pc := 961) dL_law_961 ?_
      exact VX_ret (pc := 962) dL_law_962 (ge_b _ _ rfl) (ge_b _ _ rfl)
    · have hi : 0 ≤ i ∧ i + 5 ≤ L := ⟨hi0, by omega⟩
      have K : ∀ w', LI w' → VX L xs 955 [some (.retAddr 11), some (.ref 0), some (.ref 99), some (vI i)] [] 111 w' 111 48738 := by
        intro w' q
        refine VX_iinc (pc := 955) dL_law_955 rfl rfl ?_
        refine VX_goto (tgt := 18) (pc := 958) dL_law_958 (by decide) ?_
        exact ih (i + 5) w' (by omega) (by omega) (by omega) q
      refine VX_aload_nS (pc := 26) dL_law_26 rfl ?_
      refine VX_iload_n (pc := 27) dL_law_27 rfl ?_
      refine VX_sld (pc := 28) hL ⟨by omega, by omega⟩ dL_law_28 ?_
      refine VX_bipush (pc := 29) dL_law_29 ⟨by decide, by decide⟩ ?_
      obtain ⟨t, ht, ht0, ht1⟩ := and31 (iI (sc xs i))
      refine VX_iand (pc := 31) dL_law_31 ht ?_
      by_cases hb : t < 16
      · rcases (show t = 0 ∨ t = 1 ∨ t = 2 ∨ t = 3 ∨ t = 4 ∨ t = 5 ∨ t = 6 ∨ t = 7 ∨ t = 8 ∨ t = 9 ∨ t = 10 ∨ t = 11 ∨ t = 12 ∨ t = 13 ∨ t = 14 ∨ t = 15 by omega) with rfl | rfl | rfl | rfl | rfl | rfl | rfl | rfl | rfl | rfl | rfl | rfl | rfl | rfl | rfl | rfl
        · refine VX_tableIn (off := 136) (tgt := 168) (pc := 32) dL_law_32 ⟨by decide, by decide⟩ (by decide) (by decide) rfl (by decide) ?_
          exact lw_c0 hL hi h K
        · refine VX_tableIn (off := 159) (tgt := 191) (pc := 32) dL_law_32 ⟨by decide, by decide⟩ (by decide) (by decide) rfl (by decide) ?_
          exact lw_c1 hL hi h K
        · refine VX_tableIn (off := 212) (tgt := 244) (pc := 32) dL_law_32 ⟨by decide, by decide⟩ (by decide) (by decide) rfl (by decide) ?_
          exact lw_c2 hL hi h K
        · refine VX_tableIn (off := 261) (tgt := 293) (pc := 32) dL_law_32 ⟨by decide, by decide⟩ (by decide) (by decide) rfl (by decide) ?_
          exact lw_c3 hL hi h K
        · refine VX_tableIn (off := 294) (tgt := 326) (pc := 32) dL_law_32 ⟨by decide, by decide⟩ (by decide) (by decide) rfl (by decide) ?_
          exact lw_c4 hL hi h K
        · refine VX_tableIn (off := 327) (tgt := 359) (pc := 32) dL_law_32 ⟨by decide, by decide⟩ (by decide) (by decide) rfl (by decide) ?_
          exact lw_c5 hL hi h K
        · refine VX_tableIn (off := 350) (tgt := 382) (pc := 32) dL_law_32 ⟨by decide, by decide⟩ (by decide) (by decide) rfl (by decide) ?_
          exact lw_c6 hL hi h K
        · refine VX_tableIn (off := 413) (tgt := 445) (pc := 32) dL_law_32 ⟨by decide, by decide⟩ (by decide) (by decide) rfl (by decide) ?_
          exact lw_c7 hL hi h K
        · refine VX_tableIn (off := 426) (tgt := 458) (pc := 32) dL_law_32 ⟨by decide, by decide⟩ (by decide) (by decide) rfl (by decide) ?_
          exact lw_c8 hL hi h K
        · refine VX_tableIn (off := 439) (tgt := 471) (pc := 32) dL_law_32 ⟨by decide, by decide⟩ (by decide) (by decide) rfl (by decide) ?_
          exact lw_c9 hL hi h K
        · refine VX_tableIn (off := 462) (tgt := 494) (pc := 32) dL_law_32 ⟨by decide, by decide⟩ (by decide) (by decide) rfl (by decide) ?_
          exact lw_c10 hL hi h K
        · refine VX_tableIn (off := 475) (tgt := 507) (pc := 32) dL_law_32 ⟨by decide, by decide⟩ (by decide) (by decide) rfl (by decide) ?_
          exact lw_c11 hL hi h K
        · refine VX_tableIn (off := 508) (tgt := 540) (pc := 32) dL_law_32 ⟨by decide, by decide⟩ (by decide) (by decide) rfl (by decide) ?_
          exact lw_c12 hL hi h K
        · refine VX_tableIn (off := 531) (tgt := 563) (pc := 32) dL_law_32 ⟨by decide, by decide⟩ (by decide) (by decide) rfl (by decide) ?_
          exact lw_c13 hL hi h K
        · refine VX_tableIn (off := 574) (tgt := 606) (pc := 32) dL_law_32 ⟨by decide, by decide⟩ (by decide) (by decide) rfl (by decide) ?_
          exact lw_c14 hL hi h K
        · refine VX_tableIn (off := 617) (tgt := 649) (pc := 32) dL_law_32 ⟨by decide, by decide⟩ (by decide) (by decide) rfl (by decide) ?_
          exact lw_c15 hL hi h K
      · rcases (show t = 16 ∨ t = 17 ∨ t = 18 ∨ t = 19 ∨ t = 20 ∨ t = 21 ∨ t = 22 ∨ t = 23 ∨ t = 24 ∨ t = 25 ∨ t = 26 ∨ t = 27 ∨ t = 28 ∨ t = 29 ∨ t = 30 ∨ t = 31 by omega) with rfl | rfl | rfl | rfl | rfl | rfl | rfl | rfl | rfl | rfl | rfl | rfl | rfl | rfl | rfl | rfl
        · refine VX_tableIn (off := 640) (tgt := 672) (pc := 32) dL_law_32 ⟨by decide, by decide⟩ (by decide) (by decide) rfl (by decide) ?_
          exact lw_c16 hL hi h K
        · refine VX_tableIn (off := 653) (tgt := 685) (pc := 32) dL_law_32 ⟨by decide, by decide⟩ (by decide) (by decide) rfl (by decide) ?_
          exact lw_c17 hL hi h K
        · refine VX_tableIn (off := 666) (tgt := 698) (pc := 32) dL_law_32 ⟨by decide, by decide⟩ (by decide) (by decide) rfl (by decide) ?_
          exact lw_c18 hL hi h K
        · refine VX_tableIn (off := 679) (tgt := 711) (pc := 32) dL_law_32 ⟨by decide, by decide⟩ (by decide) (by decide) rfl (by decide) ?_
          exact lw_c19 hL hi h K
        · refine VX_tableIn (off := 702) (tgt := 734) (pc := 32) dL_law_32 ⟨by decide, by decide⟩ (by decide) (by decide) rfl (by decide) ?_
          exact lw_c20 hL hi h K
        · refine VX_tableIn (off := 715) (tgt := 747) (pc := 32) dL_law_32 ⟨by decide, by decide⟩ (by decide) (by decide) rfl (by decide) ?_
          exact lw_c21 hL hi h K
        · refine VX_tableIn (off := 738) (tgt := 770) (pc := 32) dL_law_32 ⟨by decide, by decide⟩ (by decide) (by decide) rfl (by decide) ?_
          exact lw_c22 hL hi h K
        · refine VX_tableIn (off := 771) (tgt := 803) (pc := 32) dL_law_32 ⟨by decide, by decide⟩ (by decide) (by decide) rfl (by decide) ?_
          exact lw_c23 hL hi h K
        · refine VX_tableIn (off := 794) (tgt := 826) (pc := 32) dL_law_32 ⟨by decide, by decide⟩ (by decide) (by decide) rfl (by decide) ?_
          exact lw_c24 hL hi h K
        · refine VX_tableIn (off := 817) (tgt := 849) (pc := 32) dL_law_32 ⟨by decide, by decide⟩ (by decide) (by decide) rfl (by decide) ?_
          exact lw_c25 hL hi h K
        · refine VX_tableIn (off := 840) (tgt := 872) (pc := 32) dL_law_32 ⟨by decide, by decide⟩ (by decide) (by decide) rfl (by decide) ?_
          exact lw_c26 hL hi h K
        · refine VX_tableIn (off := 863) (tgt := 895) (pc := 32) dL_law_32 ⟨by decide, by decide⟩ (by decide) (by decide) rfl (by decide) ?_
          exact lw_c27 hL hi h K
        · refine VX_tableIn (off := 886) (tgt := 918) (pc := 32) dL_law_32 ⟨by decide, by decide⟩ (by decide) (by decide) rfl (by decide) ?_
          exact lw_c28 hL hi h K
        · refine VX_tableIn (off := 909) (tgt := 941) (pc := 32) dL_law_32 ⟨by decide, by decide⟩ (by decide) (by decide) rfl (by decide) ?_
          exact lw_c29 hL hi h K
        · refine VX_tableOut (tgt := 955) (pc := 32) dL_law_32 ⟨by decide, by decide⟩ (by decide) (by decide) ?_
          exact K w h
        · refine VX_tableOut (tgt := 955) (pc := 32) dL_law_32 ⟨by decide, by decide⟩ (by decide) (by decide) ?_
          exact K w h
set_option maxRecDepth 100000 in
theorem lw_main (hL : L ≤ 2560) : VX L xs 0 [some (.retAddr 11), none, none, none] [] 0 (fun _ => none) 0 0 := by
  apply VX_newX5 (pc := 0) dL_law_0 kl_L_7
  · exact ge_b _ _ rfl
  · exact ge_b _ _ rfl
  intro w_0 h_0 f_0
  refine VX_dup (pc := 3) dL_law_3 rfl ?_
  apply VX_cV (pc := 4) dL_law_4 ok_X5_init oi_X5_init rfl rfl ln_L_9 (c_XInit h_0)
  · rfl
  · rfl
  · rfl
  rintro n_4 w_4 ⟨rfl, gX⟩
  refine VX_astore_n (pc := 7) dL_law_7 rfl ?_
  apply VX_newX6 (pc := 8) dL_law_8 kl_L_10
  · exact ge_b _ _ rfl
  · exact ge_b _ _ rfl
  intro w_8 h_8 f_8
  refine VX_dup (pc := 11) dL_law_11 rfl ?_
  apply VX_cV (pc := 12) dL_law_12 ok_X6_init oi_X6_init rfl rfl ln_L_12 (c_MInit h_8)
  · rfl
  · rfl
  · rfl
  rintro n_12 w_12 ⟨rfl, gM, fM⟩
  refine VX_astore_n (pc := 15) dL_law_15 rfl ?_
  refine VX_iconst (pc := 16) dL_law_16 ?_
  refine VX_istore_n (pc := 17) dL_law_17 rfl ?_
  exact lw_loop hL (L + 6) 0 w_12 (by omega) (by omega) (by omega) (LI.mk ((XInv.keepM gX (fun j hj => f_8 j (by omega))).keepM fM) gM vGood_S5 vGood_S5 vGood_S5 byOK_nil)
end LAW
