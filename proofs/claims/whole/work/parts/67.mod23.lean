/-! ===== DrawerWallModel is made ===== -/
set_option maxRecDepth 100000 in
theorem c_MInit {w : vWd} (h : w 99 = some (.inr (6, nwX6))) : Ctr mX6_init { frames := 2, cells := 11, slots := 22717, locals := 64 } [.ref 99] 100 w (pC (fun n' w' => n' = 111 ∧ MInv w' vS5 vS5 vS5 0 0 [] 0 0 0 ∧ frM w w')) := by
  refine Ctr_of (lv := [some (.ref 99)]) (by decide +kernel) rfl rfl ?_
  have h : w 99 = some (.inr (6, [.null, .null, .null, .null, .null, vI 0, .null, vI 0, vI 0, vI 0, vI 0, vI 0, .null, vI 0, .null, .null, .null, .null, vI 0, vI 0])) := h
  refine V_aload_n (Y := mX6_init) (pc := 0) dX6_init_0 rfl ?_
  refine V_objInit (Y := mX6_init) (pc := 1) dX6_init_1 lo_X6_1 lo_inst lo_code (Nat.le_of_ble_eq_true rfl) (Nat.le_of_ble_eq_true rfl) ?_
  refine V_aload_n (Y := mX6_init) (pc := 4) dX6_init_4 rfl ?_
  refine V_bipush (Y := mX6_init) (pc := 5) dX6_init_5 ⟨by decide, by decide⟩ ?_
  apply V_newIW (N := 98) (Y := mX6_init) (pc := 7) dX6_init_7 ka_int
  · omega
  · omega
  · exact Nat.le_of_ble_eq_true rfl
  · exact Nat.le_of_ble_eq_true rfl
  intro w_7 h_7 f_7
  have o7 := (f_7 99 (by omega)).trans h
  apply V_putFW (Y := mX6_init) (pc := 9) dX6_init_9 fl_X6_7
  · exact o7
  · rfl
  · exact ⟨_, rfl, rfl⟩
  · exact ff_X6_7
  · exact fun _ => ⟨rfl, rfl⟩
  · exact Nat.le_of_ble_eq_true rfl
  intro w_9 h_9 f_9
  simp only [List.set_cons_zero, List.set_cons_succ] at h_9
  refine V_aload_n (Y := mX6_init) (pc := 12) dX6_init_12 rfl ?_
  refine V_sipush (Y := mX6_init) (pc := 13) dX6_init_13 ⟨by decide, by decide⟩ ?_
  apply V_newIW (N := 196) (Y := mX6_init) (pc := 16) dX6_init_16 ka_int
  · omega
  · omega
  · exact Nat.le_of_ble_eq_true rfl
  · exact Nat.le_of_ble_eq_true rfl
  intro w_16 h_16 f_16
  have o16 := (f_16 99 (by omega)).trans h_9
  apply V_putFW (Y := mX6_init) (pc := 18) dX6_init_18 fl_X6_13
  · exact o16
  · rfl
  · exact ⟨_, rfl, rfl⟩
  · exact ff_X6_13
  · exact fun _ => ⟨rfl, rfl⟩
  · exact Nat.le_of_ble_eq_true rfl
  intro w_18 h_18 f_18
  simp only [List.set_cons_zero, List.set_cons_succ] at h_18
  refine V_aload_n (Y := mX6_init) (pc := 21) dX6_init_21 rfl ?_
  refine V_iconst (Y := mX6_init) (pc := 22) dX6_init_22 ?_
  apply V_newZW (N := 2) (Y := mX6_init) (pc := 23) dX6_init_23 ka_boolean
  · omega
  · omega
  · exact Nat.le_of_ble_eq_true rfl
  · exact Nat.le_of_ble_eq_true rfl
  intro w_23 h_23 f_23
  have o23 := (f_23 99 (by omega)).trans h_18
  apply V_putFW (Y := mX6_init) (pc := 25) dX6_init_25 fl_X6_16
  · exact o23
  · rfl
  · exact ⟨_, rfl, rfl⟩
  · exact ff_X6_16
  · exact fun _ => ⟨rfl, rfl⟩
  · exact Nat.le_of_ble_eq_true rfl
  intro w_25 h_25 f_25
  simp only [List.set_cons_zero, List.set_cons_succ] at h_25
  refine V_aload_n (Y := mX6_init) (pc := 28) dX6_init_28 rfl ?_
  refine V_bipush (Y := mX6_init) (pc := 29) dX6_init_29 ⟨by decide, by decide⟩ ?_
  apply V_newIW (N := 98) (Y := mX6_init) (pc := 31) dX6_init_31 ka_int
  · omega
  · omega
  · exact Nat.le_of_ble_eq_true rfl
  · exact Nat.le_of_ble_eq_true rfl
  intro w_31 h_31 f_31
  have o31 := (f_31 99 (by omega)).trans h_25
  apply V_putFW (Y := mX6_init) (pc := 33) dX6_init_33 fl_X6_20
  · exact o31
  · rfl
  · exact ⟨_, rfl, rfl⟩
  · exact ff_X6_20
  · exact fun _ => ⟨rfl, rfl⟩
  · exact Nat.le_of_ble_eq_true rfl
  intro w_33 h_33 f_33
  simp only [List.set_cons_zero, List.set_cons_succ] at h_33
  refine V_aload_n (Y := mX6_init) (pc := 36) dX6_init_36 rfl ?_
  refine V_iconst (Y := mX6_init) (pc := 37) dX6_init_37 ?_
  apply V_newIW (N := 3) (Y := mX6_init) (pc := 38) dX6_init_38 ka_int
  · omega
  · omega
  · exact Nat.le_of_ble_eq_true rfl
  · exact Nat.le_of_ble_eq_true rfl
  intro w_38 h_38 f_38
  have o38 := (f_38 99 (by omega)).trans h_33
  apply V_putFW (Y := mX6_init) (pc := 40) dX6_init_40 fl_X6_23
  · exact o38
  · rfl
  · exact ⟨_, rfl, rfl⟩
  · exact ff_X6_23
  · exact fun _ => ⟨rfl, rfl⟩
  · exact Nat.le_of_ble_eq_true rfl
  intro w_40 h_40 f_40
  simp only [List.set_cons_zero, List.set_cons_succ] at h_40
  refine V_aload_n (Y := mX6_init) (pc := 43) dX6_init_43 rfl ?_
  refine V_sipush (Y := mX6_init) (pc := 44) dX6_init_44 ⟨by decide, by decide⟩ ?_
  apply V_newIW (N := 200) (Y := mX6_init) (pc := 47) dX6_init_47 ka_int
  · omega
  · omega
  · exact Nat.le_of_ble_eq_true rfl
  · exact Nat.le_of_ble_eq_true rfl
  intro w_47 h_47 f_47
  have o47 := (f_47 99 (by omega)).trans h_40
  apply V_putFW (Y := mX6_init) (pc := 49) dX6_init_49 fl_X6_26
  · exact o47
  · rfl
  · exact ⟨_, rfl, rfl⟩
  · exact ff_X6_26
  · exact fun _ => ⟨rfl, rfl⟩
  · exact Nat.le_of_ble_eq_true rfl
  intro w_49 h_49 f_49
  simp only [List.set_cons_zero, List.set_cons_succ] at h_49
  refine V_aload_n (Y := mX6_init) (pc := 52) dX6_init_52 rfl ?_
  refine V_sipush (Y := mX6_init) (pc := 53) dX6_init_53 ⟨by decide, by decide⟩ ?_
  apply V_newIW (N := 250) (Y := mX6_init) (pc := 56) dX6_init_56 ka_int
  · omega
  · omega
  · exact Nat.le_of_ble_eq_true rfl
  · exact Nat.le_of_ble_eq_true rfl
  intro w_56 h_56 f_56
  have o56 := (f_56 99 (by omega)).trans h_49
  apply V_putFW (Y := mX6_init) (pc := 58) dX6_init_58 fl_X6_29
  · exact o56
  · rfl
  · exact ⟨_, rfl, rfl⟩
  · exact ff_X6_29
  · exact fun _ => ⟨rfl, rfl⟩
  · exact Nat.le_of_ble_eq_true rfl
  intro w_58 h_58 f_58
  simp only [List.set_cons_zero, List.set_cons_succ] at h_58
  refine V_aload_n (Y := mX6_init) (pc := 61) dX6_init_61 rfl ?_
  refine V_sipush (Y := mX6_init) (pc := 62) dX6_init_62 ⟨by decide, by decide⟩ ?_
  apply V_newIW (N := 15309) (Y := mX6_init) (pc := 65) dX6_init_65 ka_int
  · omega
  · omega
  · exact Nat.le_of_ble_eq_true rfl
  · exact Nat.le_of_ble_eq_true rfl
  intro w_65 h_65 f_65
  have o65 := (f_65 99 (by omega)).trans h_58
  apply V_putFW (Y := mX6_init) (pc := 67) dX6_init_67 fl_X6_32
  · exact o65
  · rfl
  · exact ⟨_, rfl, rfl⟩
  · exact ff_X6_32
  · exact fun _ => ⟨rfl, rfl⟩
  · exact Nat.le_of_ble_eq_true rfl
  intro w_67 h_67 f_67
  simp only [List.set_cons_zero, List.set_cons_succ] at h_67
  refine V_aload_n (Y := mX6_init) (pc := 70) dX6_init_70 rfl ?_
  refine V_sipush (Y := mX6_init) (pc := 71) dX6_init_71 ⟨by decide, by decide⟩ ?_
  apply V_newIW (N := 2187) (Y := mX6_init) (pc := 74) dX6_init_74 ka_int
  · omega
  · omega
  · exact Nat.le_of_ble_eq_true rfl
  · exact Nat.le_of_ble_eq_true rfl
  intro w_74 h_74 f_74
  have o74 := (f_74 99 (by omega)).trans h_67
  apply V_putFW (Y := mX6_init) (pc := 76) dX6_init_76 fl_X6_35
  · exact o74
  · rfl
  · exact ⟨_, rfl, rfl⟩
  · exact ff_X6_35
  · exact fun _ => ⟨rfl, rfl⟩
  · exact Nat.le_of_ble_eq_true rfl
  intro w_76 h_76 f_76
  simp only [List.set_cons_zero, List.set_cons_succ] at h_76
  refine V_aload_n (Y := mX6_init) (pc := 79) dX6_init_79 rfl ?_
  refine V_sipush (Y := mX6_init) (pc := 80) dX6_init_80 ⟨by decide, by decide⟩ ?_
  apply V_newZW (N := 2187) (Y := mX6_init) (pc := 83) dX6_init_83 ka_boolean
  · omega
  · omega
  · exact Nat.le_of_ble_eq_true rfl
  · exact Nat.le_of_ble_eq_true rfl
  intro w_83 h_83 f_83
  have o83 := (f_83 99 (by omega)).trans h_76
  apply V_putFW (Y := mX6_init) (pc := 85) dX6_init_85 fl_X6_38
  · exact o83
  · rfl
  · exact ⟨_, rfl, rfl⟩
  · exact ff_X6_38
  · exact fun _ => ⟨rfl, rfl⟩
  · exact Nat.le_of_ble_eq_true rfl
  intro w_85 h_85 f_85
  simp only [List.set_cons_zero, List.set_cons_succ] at h_85
  refine V_aload_n (Y := mX6_init) (pc := 88) dX6_init_88 rfl ?_
  refine V_sipush (Y := mX6_init) (pc := 89) dX6_init_89 ⟨by decide, by decide⟩ ?_
  apply V_newIW (N := 2187) (Y := mX6_init) (pc := 92) dX6_init_92 ka_int
  · omega
  · omega
  · exact Nat.le_of_ble_eq_true rfl
  · exact Nat.le_of_ble_eq_true rfl
  intro w_92 h_92 f_92
  have o92 := (f_92 99 (by omega)).trans h_85
  apply V_putFW (Y := mX6_init) (pc := 94) dX6_init_94 fl_X6_41
  · exact o92
  · rfl
  · exact ⟨_, rfl, rfl⟩
  · exact ff_X6_41
  · exact fun _ => ⟨rfl, rfl⟩
  · exact Nat.le_of_ble_eq_true rfl
  intro w_94 h_94 f_94
  simp only [List.set_cons_zero, List.set_cons_succ] at h_94
  refine V_aload_n (Y := mX6_init) (pc := 97) dX6_init_97 rfl ?_
  refine V_iconst (Y := mX6_init) (pc := 98) dX6_init_98 ?_
  apply V_vV (Y := mX6_init) (pc := 99) dX6_init_99 ok_X6_begins ov_X6_begins ln_X6_44 ((cm_begins (w := w_94) (f := fun _ => 0) (k := 5) (qt := 0) (ty := 0) (a0 := 0) (sp := 0) (tk := 0) (vl := 0) (mn := 0) (fd := 0) (sv := 0) h_94 ((f_94 100 (by omega)).trans ((f_92 100 (by omega)).trans ((f_85 100 (by omega)).trans ((f_83 100 (by omega)).trans ((f_76 100 (by omega)).trans ((f_74 100 (by omega)).trans ((f_67 100 (by omega)).trans ((f_65 100 (by omega)).trans ((f_58 100 (by omega)).trans ((f_56 100 (by omega)).trans ((f_49 100 (by omega)).trans ((f_47 100 (by omega)).trans ((f_40 100 (by omega)).trans ((f_38 100 (by omega)).trans ((f_33 100 (by omega)).trans ((f_31 100 (by omega)).trans ((f_25 100 (by omega)).trans ((f_23 100 (by omega)).trans ((f_18 100 (by omega)).trans ((f_16 100 (by omega)).trans ((f_9 100 (by omega)).trans h_7)))))))))))))))))))))))
  · assumption
  · rfl
  · rfl
  · rfl
  · rfl
  · rfl
  rintro w_99 ⟨⟨f', g1, g2⟩, f99⟩
  refine V_vret (Y := mX6_init) (pc := 102) dX6_init_102 rfl (Nat.le_of_ble_eq_true rfl) (Nat.le_of_ble_eq_true rfl) ?_
  have o := (f99 99 (by omega)).trans h_94
  have a1 := (f99 101 (by omega)).trans ((f_94 101 (by omega)).trans ((f_92 101 (by omega)).trans ((f_85 101 (by omega)).trans ((f_83 101 (by omega)).trans ((f_76 101 (by omega)).trans ((f_74 101 (by omega)).trans ((f_67 101 (by omega)).trans ((f_65 101 (by omega)).trans ((f_58 101 (by omega)).trans ((f_56 101 (by omega)).trans ((f_49 101 (by omega)).trans ((f_47 101 (by omega)).trans ((f_40 101 (by omega)).trans ((f_38 101 (by omega)).trans ((f_33 101 (by omega)).trans ((f_31 101 (by omega)).trans ((f_25 101 (by omega)).trans ((f_23 101 (by omega)).trans ((f_18 101 (by omega)).trans h_16)))))))))))))))))))
  have a2 := (f99 102 (by omega)).trans ((f_94 102 (by omega)).trans ((f_92 102 (by omega)).trans ((f_85 102 (by omega)).trans ((f_83 102 (by omega)).trans ((f_76 102 (by omega)).trans ((f_74 102 (by omega)).trans ((f_67 102 (by omega)).trans ((f_65 102 (by omega)).trans ((f_58 102 (by omega)).trans ((f_56 102 (by omega)).trans ((f_49 102 (by omega)).trans ((f_47 102 (by omega)).trans ((f_40 102 (by omega)).trans ((f_38 102 (by omega)).trans ((f_33 102 (by omega)).trans ((f_31 102 (by omega)).trans ((f_25 102 (by omega)).trans h_23)))))))))))))))))
  have a3 := (f99 103 (by omega)).trans ((f_94 103 (by omega)).trans ((f_92 103 (by omega)).trans ((f_85 103 (by omega)).trans ((f_83 103 (by omega)).trans ((f_76 103 (by omega)).trans ((f_74 103 (by omega)).trans ((f_67 103 (by omega)).trans ((f_65 103 (by omega)).trans ((f_58 103 (by omega)).trans ((f_56 103 (by omega)).trans ((f_49 103 (by omega)).trans ((f_47 103 (by omega)).trans ((f_40 103 (by omega)).trans ((f_38 103 (by omega)).trans ((f_33 103 (by omega)).trans h_31)))))))))))))))
  have a4 := (f99 104 (by omega)).trans ((f_94 104 (by omega)).trans ((f_92 104 (by omega)).trans ((f_85 104 (by omega)).trans ((f_83 104 (by omega)).trans ((f_76 104 (by omega)).trans ((f_74 104 (by omega)).trans ((f_67 104 (by omega)).trans ((f_65 104 (by omega)).trans ((f_58 104 (by omega)).trans ((f_56 104 (by omega)).trans ((f_49 104 (by omega)).trans ((f_47 104 (by omega)).trans ((f_40 104 (by omega)).trans h_38)))))))))))))
  have a5 := (f99 105 (by omega)).trans ((f_94 105 (by omega)).trans ((f_92 105 (by omega)).trans ((f_85 105 (by omega)).trans ((f_83 105 (by omega)).trans ((f_76 105 (by omega)).trans ((f_74 105 (by omega)).trans ((f_67 105 (by omega)).trans ((f_65 105 (by omega)).trans ((f_58 105 (by omega)).trans ((f_56 105 (by omega)).trans ((f_49 105 (by omega)).trans h_47)))))))))))
  have a6 := (f99 106 (by omega)).trans ((f_94 106 (by omega)).trans ((f_92 106 (by omega)).trans ((f_85 106 (by omega)).trans ((f_83 106 (by omega)).trans ((f_76 106 (by omega)).trans ((f_74 106 (by omega)).trans ((f_67 106 (by omega)).trans ((f_65 106 (by omega)).trans ((f_58 106 (by omega)).trans h_56)))))))))
  have a7 := (f99 107 (by omega)).trans ((f_94 107 (by omega)).trans ((f_92 107 (by omega)).trans ((f_85 107 (by omega)).trans ((f_83 107 (by omega)).trans ((f_76 107 (by omega)).trans ((f_74 107 (by omega)).trans ((f_67 107 (by omega)).trans h_65)))))))
  have a8 := (f99 108 (by omega)).trans ((f_94 108 (by omega)).trans ((f_92 108 (by omega)).trans ((f_85 108 (by omega)).trans ((f_83 108 (by omega)).trans ((f_76 108 (by omega)).trans h_74)))))
  have a9 := (f99 109 (by omega)).trans ((f_94 109 (by omega)).trans ((f_92 109 (by omega)).trans ((f_85 109 (by omega)).trans h_83)))
  have a10 := (f99 110 (by omega)).trans ((f_94 110 (by omega)).trans h_92)
  have fr : frM w w_99 := fun j hj => (f99 j (by omega)).trans ((f_94 j (by omega)).trans ((f_92 j (by omega)).trans ((f_85 j (by omega)).trans ((f_83 j (by omega)).trans ((f_76 j (by omega)).trans ((f_74 j (by omega)).trans ((f_67 j (by omega)).trans ((f_65 j (by omega)).trans ((f_58 j (by omega)).trans ((f_56 j (by omega)).trans ((f_49 j (by omega)).trans ((f_47 j (by omega)).trans ((f_40 j (by omega)).trans ((f_38 j (by omega)).trans ((f_33 j (by omega)).trans ((f_31 j (by omega)).trans ((f_25 j (by omega)).trans ((f_23 j (by omega)).trans ((f_18 j (by omega)).trans ((f_16 j (by omega)).trans ((f_9 j (by omega)).trans (f_7 j (by omega)))))))))))))))))))))))
  refine pC_of ⟨rfl, ⟨⟨⟨_, _, _, _, _, _, _, _, o⟩, ⟨f', g1, BkOf_new (k := 5) g2 ⟨by omega, by omega⟩⟩, ⟨_, a4, rfl, rfl, rfl⟩, Or.inl rfl⟩, ⟨_, _, _, _, _, _, _, o⟩, ⟨_, a5, by decide, fun k h0 h1 => by have h1 : k < 0 := h1; omega⟩, ⟨_, _, a1, a2, rfl, rfl, Or.inl rfl, Or.inl rfl, fun q => absurd q (by decide), fun q => absurd q (by decide)⟩, ⟨⟨_, a3⟩, ⟨_, a6⟩, ⟨_, a7⟩, ⟨_, a8⟩, ⟨_, a9⟩, ⟨_, a10⟩⟩⟩, fr⟩
