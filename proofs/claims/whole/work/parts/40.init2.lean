/-! ===== a new DrawerWall ===== -/
theorem vGood_new {k : Int} (hk : 2 ≤ k ∧ k ≤ 7) : vGood (k, 0, 0, 0, 0, rsNew k.toNat) := by
  have hp := p3_pos k.toNat
  have hz : ∀ c : Int, 0 ≤ c → ¬ c < ((([] : List Int).length : Nat) : Int) := fun c hc => by simp; omega
  refine vGood.mk' hk ⟨by omega, hp⟩ (by decide) (by decide) (by decide) ⟨?_, fun d h0 h1 => ?_⟩ ⟨⟨rfl, rfl, rfl⟩, fun c h0 h1 => absurd h1 (hz c h0)⟩ (fun o h0 h1 => absurd h1 (hz o h0)) ⟨rfl, fun c h0 h1 => absurd h1 (hz c h0)⟩ (fun c h0 h1 => absurd h1 (hz c h0))
  · show ((iota k.toNat).length : Int) = k
    rw [iota_len]; omega
  · show 0 ≤ rAt (iota k.toNat) d ∧ rAt (iota k.toNat) d ≤ 6
    rw [rAt_iota h0 (by omega)]; omega
def vS5 : vSt := (5, 0, 0, 0, 0, rsNew 5)
theorem vGood_S5 : vGood vS5 := vGood_new (k := 5) ⟨by omega, by omega⟩
set_option maxRecDepth 100000 in
theorem c_XInit {w : vWd} (h : w 0 = some (.inr (5, nwX5))) : Ctr mX5_init { frames := 3, cells := 98, slots := 25986, locals := 96 } [.ref 0] 1 w (pC (fun n' w' => n' = 99 ∧ XInv w' vS5 vS5 vS5 0 0 [] 0 0 0)) := by
  refine Ctr_of (lv := [some (.ref 0)]) (by decide +kernel) rfl rfl ?_
  have h : w 0 = some (.inr (5, [.null, .null, .null, .null, vI 0, vI 0, .null, .null, .null, .null, .null, .null, vI 0, vI 0, vI 0])) := h
  have e0 := h
  refine V_aload_n (Y := mX5_init) (pc := 0) dX5_init_0 rfl ?_
  refine V_objInit (Y := mX5_init) (pc := 1) dX5_init_1 lo_X5_1 lo_inst lo_code (Nat.le_of_ble_eq_true rfl) (Nat.le_of_ble_eq_true rfl) ?_
  refine V_aload_n (Y := mX5_init) (pc := 4) dX5_init_4 rfl ?_
  apply V_newX4 (Y := mX5_init) (pc := 5) dX5_init_5 kl_X5_7
  · exact Nat.le_of_ble_eq_true rfl
  · exact Nat.le_of_ble_eq_true rfl
  intro w_5 h_5 f_5
  skip
  have e0a := (f_5 0 (by omega)).trans e0
  refine V_dup (Y := mX5_init) (pc := 8) dX5_init_8 rfl ?_
  apply V_cV (Y := mX5_init) (pc := 9) dX5_init_9 ok_X4_init oi_X4_init rfl rfl ln_X5_9 (c_WallInit (p := 1) h_5)
  · rfl
  · rfl
  · rfl
  rintro n_9 w_9 ⟨rfl, r0, q0⟩
  have e0b := (q0 0 (by omega)).trans e0a
  apply V_putFW (Y := mX5_init) (pc := 12) dX5_init_12 fl_X5_10
  · exact e0b
  · rfl
  · exact ⟨_, rfl, rfl⟩
  · exact ff_X5_10
  · exact fun _ => ⟨rfl, rfl⟩
  · exact Nat.le_of_ble_eq_true rfl
  intro w_12 h_12 f_12
  simp only [List.set_cons_zero, List.set_cons_succ] at h_12
  have e1 := h_12
  have F1 : ∀ j, 0 < j → j < 1 → w_12 j = w j := fun j h0 h1 => (f_12 j (by omega)).trans ((q0 j (by omega)).trans (f_5 j (by omega)))
  have P0 : ∀ j, 0 < j → w_12 j = w_9 j := fun j h0 => f_12 j (by omega)
  refine V_aload_n (Y := mX5_init) (pc := 15) dX5_init_15 rfl ?_
  apply V_newX4 (Y := mX5_init) (pc := 16) dX5_init_16 kl_X5_7
  · exact Nat.le_of_ble_eq_true rfl
  · exact Nat.le_of_ble_eq_true rfl
  intro w_16 h_16 f_16
  skip
  have e1a := (f_16 0 (by omega)).trans e1
  refine V_dup (Y := mX5_init) (pc := 19) dX5_init_19 rfl ?_
  apply V_cV (Y := mX5_init) (pc := 20) dX5_init_20 ok_X4_init oi_X4_init rfl rfl ln_X5_9 (c_WallInit (p := 20) h_16)
  · rfl
  · rfl
  · rfl
  rintro n_20 w_20 ⟨rfl, r1, q1⟩
  have e1b := (q1 0 (by omega)).trans e1a
  apply V_putFW (Y := mX5_init) (pc := 23) dX5_init_23 fl_X5_16
  · exact e1b
  · rfl
  · exact ⟨_, rfl, rfl⟩
  · exact ff_X5_16
  · exact fun _ => ⟨rfl, rfl⟩
  · exact Nat.le_of_ble_eq_true rfl
  intro w_23 h_23 f_23
  simp only [List.set_cons_zero, List.set_cons_succ] at h_23
  have e2 := h_23
  have F2 : ∀ j, 0 < j → j < 20 → w_23 j = w_12 j := fun j h0 h1 => (f_23 j (by omega)).trans ((q1 j (by omega)).trans (f_16 j (by omega)))
  have P1 : ∀ j, 0 < j → w_23 j = w_20 j := fun j h0 => f_23 j (by omega)
  refine V_aload_n (Y := mX5_init) (pc := 26) dX5_init_26 rfl ?_
  apply V_newX4 (Y := mX5_init) (pc := 27) dX5_init_27 kl_X5_7
  · exact Nat.le_of_ble_eq_true rfl
  · exact Nat.le_of_ble_eq_true rfl
  intro w_27 h_27 f_27
  skip
  have e2a := (f_27 0 (by omega)).trans e2
  refine V_dup (Y := mX5_init) (pc := 30) dX5_init_30 rfl ?_
  apply V_cV (Y := mX5_init) (pc := 31) dX5_init_31 ok_X4_init oi_X4_init rfl rfl ln_X5_9 (c_WallInit (p := 39) h_27)
  · rfl
  · rfl
  · rfl
  rintro n_31 w_31 ⟨rfl, r2, q2⟩
  have e2b := (q2 0 (by omega)).trans e2a
  apply V_putFW (Y := mX5_init) (pc := 34) dX5_init_34 fl_X5_19
  · exact e2b
  · rfl
  · exact ⟨_, rfl, rfl⟩
  · exact ff_X5_19
  · exact fun _ => ⟨rfl, rfl⟩
  · exact Nat.le_of_ble_eq_true rfl
  intro w_34 h_34 f_34
  simp only [List.set_cons_zero, List.set_cons_succ] at h_34
  have e3 := h_34
  have F3 : ∀ j, 0 < j → j < 39 → w_34 j = w_23 j := fun j h0 h1 => (f_34 j (by omega)).trans ((q2 j (by omega)).trans (f_27 j (by omega)))
  have P2 : ∀ j, 0 < j → w_34 j = w_31 j := fun j h0 => f_34 j (by omega)
  refine V_aload_n (Y := mX5_init) (pc := 37) dX5_init_37 rfl ?_
  apply V_newX4 (Y := mX5_init) (pc := 38) dX5_init_38 kl_X5_7
  · exact Nat.le_of_ble_eq_true rfl
  · exact Nat.le_of_ble_eq_true rfl
  intro w_38 h_38 f_38
  skip
  have e3a := (f_38 0 (by omega)).trans e3
  refine V_dup (Y := mX5_init) (pc := 41) dX5_init_41 rfl ?_
  apply V_cV (Y := mX5_init) (pc := 42) dX5_init_42 ok_X4_init oi_X4_init rfl rfl ln_X5_9 (c_WallInit (p := 58) h_38)
  · rfl
  · rfl
  · rfl
  rintro n_42 w_42 ⟨rfl, r3, q3⟩
  have e3b := (q3 0 (by omega)).trans e3a
  apply V_putFW (Y := mX5_init) (pc := 45) dX5_init_45 fl_X5_22
  · exact e3b
  · rfl
  · exact ⟨_, rfl, rfl⟩
  · exact ff_X5_22
  · exact fun _ => ⟨rfl, rfl⟩
  · exact Nat.le_of_ble_eq_true rfl
  intro w_45 h_45 f_45
  simp only [List.set_cons_zero, List.set_cons_succ] at h_45
  have e4 := h_45
  have F4 : ∀ j, 0 < j → j < 58 → w_45 j = w_34 j := fun j h0 h1 => (f_45 j (by omega)).trans ((q3 j (by omega)).trans (f_38 j (by omega)))
  have P3 : ∀ j, 0 < j → w_45 j = w_42 j := fun j h0 => f_45 j (by omega)
  refine V_aload_n (Y := mX5_init) (pc := 48) dX5_init_48 rfl ?_
  refine V_iconst (Y := mX5_init) (pc := 49) dX5_init_49 ?_
  apply V_putzW (Y := mX5_init) (pc := 50) dX5_init_50 fl_X5_25
  · exact e4
  · first | exact Or.inl rfl | exact Or.inr rfl
  · exact Nat.le_of_ble_eq_true rfl
  intro w_50 h_50 f_50
  simp only [List.set_cons_zero, List.set_cons_succ] at h_50
  have e5 := h_50
  have F5 : ∀ j, 0 < j → w_50 j = w_45 j := fun j h0 => f_50 j (by omega)
  refine V_aload_n (Y := mX5_init) (pc := 53) dX5_init_53 rfl ?_
  refine V_iconst (Y := mX5_init) (pc := 54) dX5_init_54 ?_
  apply V_putzW (Y := mX5_init) (pc := 55) dX5_init_55 fl_X5_29
  · exact e5
  · first | exact Or.inl rfl | exact Or.inr rfl
  · exact Nat.le_of_ble_eq_true rfl
  intro w_55 h_55 f_55
  simp only [List.set_cons_zero, List.set_cons_succ] at h_55
  have e6 := h_55
  have F6 : ∀ j, 0 < j → w_55 j = w_50 j := fun j h0 => f_55 j (by omega)
  refine V_aload_n (Y := mX5_init) (pc := 58) dX5_init_58 rfl ?_
  apply V_newX2 (Y := mX5_init) (pc := 59) dX5_init_59 kl_X5_32
  · exact Nat.le_of_ble_eq_true rfl
  · exact Nat.le_of_ble_eq_true rfl
  intro w_59 h_59 f_59
  skip
  have e6a := (f_59 0 (by omega)).trans e6
  refine V_dup (Y := mX5_init) (pc := 62) dX5_init_62 rfl ?_
  refine V_sipush (Y := mX5_init) (pc := 63) dX5_init_63 ⟨by decide, by decide⟩ ?_
  apply V_cV (Y := mX5_init) (pc := 66) dX5_init_66 ok_X2_init oi_X2_init rfl rfl ln_X5_34 (c_RowInit (k := 77) (cap := 200) h_59 (by omega))
  · rfl
  · rfl
  · rfl
  rintro n_66 w_66 ⟨rfl, r6, q6⟩
  have e6b := (q6 0 (by omega) (by omega)).trans e6a
  apply V_putFW (Y := mX5_init) (pc := 69) dX5_init_69 fl_X5_37
  · exact e6b
  · rfl
  · exact ⟨_, rfl, rfl⟩
  · exact ff_X5_37
  · exact fun _ => ⟨rfl, rfl⟩
  · exact Nat.le_of_ble_eq_true rfl
  intro w_69 h_69 f_69
  simp only [List.set_cons_zero, List.set_cons_succ] at h_69
  have e7 := h_69
  have F7 : ∀ j, 0 < j → j < 77 → w_69 j = w_55 j := fun j h0 h1 => (f_69 j (by omega)).trans ((q6 j (by omega) (by omega)).trans (f_59 j (by omega)))
  have P6 : ∀ j, 0 < j → w_69 j = w_66 j := fun j h0 => f_69 j (by omega)
  refine V_aload_n (Y := mX5_init) (pc := 72) dX5_init_72 rfl ?_
  apply V_newX1 (Y := mX5_init) (pc := 73) dX5_init_73 kl_X5_41
  · exact Nat.le_of_ble_eq_true rfl
  · exact Nat.le_of_ble_eq_true rfl
  intro w_73 h_73 f_73
  skip
  have e7a := (f_73 0 (by omega)).trans e7
  refine V_dup (Y := mX5_init) (pc := 76) dX5_init_76 rfl ?_
  apply V_cV (Y := mX5_init) (pc := 77) dX5_init_77 ok_X1_init oi_X1_init rfl rfl ln_X5_43 (c_RdInit h_73)
  · rfl
  · rfl
  · rfl
  rintro n_77 w_77 ⟨rfl, r7, q7⟩
  have e7b := (q7 0 (by omega)).trans e7a
  apply V_putFW (Y := mX5_init) (pc := 80) dX5_init_80 fl_X5_44
  · exact e7b
  · rfl
  · exact ⟨_, rfl, rfl⟩
  · exact ff_X5_44
  · exact fun _ => ⟨rfl, rfl⟩
  · exact Nat.le_of_ble_eq_true rfl
  intro w_80 h_80 f_80
  simp only [List.set_cons_zero, List.set_cons_succ] at h_80
  have e8 := h_80
  have F8 : ∀ j, 0 < j → j < 79 → w_80 j = w_69 j := fun j h0 h1 => (f_80 j (by omega)).trans ((q7 j (by omega)).trans (f_73 j (by omega)))
  have P7 : ∀ j, 0 < j → w_80 j = w_77 j := fun j h0 => f_80 j (by omega)
  refine V_aload_n (Y := mX5_init) (pc := 83) dX5_init_83 rfl ?_
  apply V_newX3 (Y := mX5_init) (pc := 84) dX5_init_84 kl_X5_48
  · exact Nat.le_of_ble_eq_true rfl
  · exact Nat.le_of_ble_eq_true rfl
  intro w_84 h_84 f_84
  skip
  have e8a := (f_84 0 (by omega)).trans e8
  refine V_dup (Y := mX5_init) (pc := 87) dX5_init_87 rfl ?_
  apply V_cV (Y := mX5_init) (pc := 88) dX5_init_88 ok_X3_init oi_X3_init rfl rfl ln_X5_50 (c_WkInit h_84)
  · rfl
  · rfl
  · rfl
  rintro n_88 w_88 ⟨rfl, r8, q8⟩
  have e8b := (q8 0 (by omega)).trans e8a
  apply V_putFW (Y := mX5_init) (pc := 91) dX5_init_91 fl_X5_51
  · exact e8b
  · rfl
  · exact ⟨_, rfl, rfl⟩
  · exact ff_X5_51
  · exact fun _ => ⟨rfl, rfl⟩
  · exact Nat.le_of_ble_eq_true rfl
  intro w_91 h_91 f_91
  simp only [List.set_cons_zero, List.set_cons_succ] at h_91
  have e9 := h_91
  have F9 : ∀ j, 0 < j → j < 84 → w_91 j = w_80 j := fun j h0 h1 => (f_91 j (by omega)).trans ((q8 j (by omega)).trans (f_84 j (by omega)))
  have P8 : ∀ j, 0 < j → w_91 j = w_88 j := fun j h0 => f_91 j (by omega)
  refine V_aload_n (Y := mX5_init) (pc := 94) dX5_init_94 rfl ?_
  apply V_newX0 (Y := mX5_init) (pc := 95) dX5_init_95 kl_X5_55
  · exact Nat.le_of_ble_eq_true rfl
  · exact Nat.le_of_ble_eq_true rfl
  intro w_95 h_95 f_95
  skip
  have e9a := (f_95 0 (by omega)).trans e9
  refine V_dup (Y := mX5_init) (pc := 98) dX5_init_98 rfl ?_
  apply V_cV (Y := mX5_init) (pc := 99) dX5_init_99 ok_X0_init oi_X0_init rfl rfl ln_X5_57 (c_DayInit (q := 95) h_95)
  · rfl
  · rfl
  · rfl
  rintro n_99 w_99 ⟨rfl, r9, q9⟩
  have e9b := (q9 0 (by omega)).trans e9a
  apply V_putFW (Y := mX5_init) (pc := 102) dX5_init_102 fl_X5_58
  · exact e9b
  · rfl
  · exact ⟨_, rfl, rfl⟩
  · exact ff_X5_58
  · exact fun _ => ⟨rfl, rfl⟩
  · exact Nat.le_of_ble_eq_true rfl
  intro w_102 h_102 f_102
  simp only [List.set_cons_zero, List.set_cons_succ] at h_102
  have e10 := h_102
  have F10 : ∀ j, 0 < j → j < 95 → w_102 j = w_91 j := fun j h0 h1 => (f_102 j (by omega)).trans ((q9 j (by omega)).trans (f_95 j (by omega)))
  have P9 : ∀ j, 0 < j → w_102 j = w_99 j := fun j h0 => f_102 j (by omega)
  refine V_aload_n (Y := mX5_init) (pc := 105) dX5_init_105 rfl ?_
  apply V_newX0 (Y := mX5_init) (pc := 106) dX5_init_106 kl_X5_55
  · exact Nat.le_of_ble_eq_true rfl
  · exact Nat.le_of_ble_eq_true rfl
  intro w_106 h_106 f_106
  skip
  have e10a := (f_106 0 (by omega)).trans e10
  refine V_dup (Y := mX5_init) (pc := 109) dX5_init_109 rfl ?_
  apply V_cV (Y := mX5_init) (pc := 110) dX5_init_110 ok_X0_init oi_X0_init rfl rfl ln_X5_57 (c_DayInit (q := 96) h_106)
  · rfl
  · rfl
  · rfl
  rintro n_110 w_110 ⟨rfl, r10, q10⟩
  have e10b := (q10 0 (by omega)).trans e10a
  apply V_putFW (Y := mX5_init) (pc := 113) dX5_init_113 fl_X5_62
  · exact e10b
  · rfl
  · exact ⟨_, rfl, rfl⟩
  · exact ff_X5_62
  · exact fun _ => ⟨rfl, rfl⟩
  · exact Nat.le_of_ble_eq_true rfl
  intro w_113 h_113 f_113
  simp only [List.set_cons_zero, List.set_cons_succ] at h_113
  have e11 := h_113
  have F11 : ∀ j, 0 < j → j < 96 → w_113 j = w_102 j := fun j h0 h1 => (f_113 j (by omega)).trans ((q10 j (by omega)).trans (f_106 j (by omega)))
  have P10 : ∀ j, 0 < j → w_113 j = w_110 j := fun j h0 => f_113 j (by omega)
  refine V_aload_n (Y := mX5_init) (pc := 116) dX5_init_116 rfl ?_
  apply V_newX2 (Y := mX5_init) (pc := 117) dX5_init_117 kl_X5_32
  · exact Nat.le_of_ble_eq_true rfl
  · exact Nat.le_of_ble_eq_true rfl
  intro w_117 h_117 f_117
  skip
  have e11a := (f_117 0 (by omega)).trans e11
  refine V_dup (Y := mX5_init) (pc := 120) dX5_init_120 rfl ?_
  refine V_bipush (Y := mX5_init) (pc := 121) dX5_init_121 ⟨by decide, by decide⟩ ?_
  apply V_cV (Y := mX5_init) (pc := 123) dX5_init_123 ok_X2_init oi_X2_init rfl rfl ln_X5_34 (c_RowInit (k := 97) (cap := 7) h_117 (by omega))
  · rfl
  · rfl
  · rfl
  rintro n_123 w_123 ⟨rfl, r11, q11⟩
  have e11b := (q11 0 (by omega) (by omega)).trans e11a
  apply V_putFW (Y := mX5_init) (pc := 126) dX5_init_126 fl_X5_65
  · exact e11b
  · rfl
  · exact ⟨_, rfl, rfl⟩
  · exact ff_X5_65
  · exact fun _ => ⟨rfl, rfl⟩
  · exact Nat.le_of_ble_eq_true rfl
  intro w_126 h_126 f_126
  simp only [List.set_cons_zero, List.set_cons_succ] at h_126
  have e12 := h_126
  have F12 : ∀ j, 0 < j → j < 97 → w_126 j = w_113 j := fun j h0 h1 => (f_126 j (by omega)).trans ((q11 j (by omega) (by omega)).trans (f_117 j (by omega)))
  have P11 : ∀ j, 0 < j → w_126 j = w_123 j := fun j h0 => f_126 j (by omega)
  refine V_aload_n (Y := mX5_init) (pc := 129) dX5_init_129 rfl ?_
  refine V_iconst (Y := mX5_init) (pc := 130) dX5_init_130 ?_
  apply V_putiW (Y := mX5_init) (pc := 131) dX5_init_131 fl_X5_68
  · exact e12
  · exact Nat.le_of_ble_eq_true rfl
  intro w_131 h_131 f_131
  simp only [List.set_cons_zero, List.set_cons_succ] at h_131
  have e13 := h_131
  have F13 : ∀ j, 0 < j → w_131 j = w_126 j := fun j h0 => f_131 j (by omega)
  refine V_aload_n (Y := mX5_init) (pc := 134) dX5_init_134 rfl ?_
  refine V_iconst (Y := mX5_init) (pc := 135) dX5_init_135 ?_
  apply V_putiW (Y := mX5_init) (pc := 136) dX5_init_136 fl_X5_72
  · exact e13
  · exact Nat.le_of_ble_eq_true rfl
  intro w_136 h_136 f_136
  simp only [List.set_cons_zero, List.set_cons_succ] at h_136
  have e14 := h_136
  have F14 : ∀ j, 0 < j → w_136 j = w_131 j := fun j h0 => f_136 j (by omega)
  refine V_aload_n (Y := mX5_init) (pc := 139) dX5_init_139 rfl ?_
  refine V_iconst (Y := mX5_init) (pc := 140) dX5_init_140 ?_
  apply V_putiW (Y := mX5_init) (pc := 141) dX5_init_141 fl_X5_75
  · exact e14
  · exact Nat.le_of_ble_eq_true rfl
  intro w_141 h_141 f_141
  simp only [List.set_cons_zero, List.set_cons_succ] at h_141
  have e15 := h_141
  have F15 : ∀ j, 0 < j → w_141 j = w_136 j := fun j h0 => f_141 j (by omega)
  refine V_vret (Y := mX5_init) (pc := 144) dX5_init_144 rfl (Nat.le_of_ble_eq_true rfl) (Nat.le_of_ble_eq_true rfl) ?_
  have G0 : ∀ j, 0 < j → j < 20 → w_141 j = w_9 j := fun j a b => (F15 j a).trans ((F14 j a).trans ((F13 j a).trans ((F12 j a (by omega)).trans ((F11 j a (by omega)).trans ((F10 j a (by omega)).trans ((F9 j a (by omega)).trans ((F8 j a (by omega)).trans ((F7 j a (by omega)).trans ((F6 j a).trans ((F5 j a).trans ((F4 j a (by omega)).trans ((F3 j a (by omega)).trans ((F2 j a (by omega)).trans (P0 j a))))))))))))))
  have G1 : ∀ j, 0 < j → j < 39 → w_141 j = w_20 j := fun j a b => (F15 j a).trans ((F14 j a).trans ((F13 j a).trans ((F12 j a (by omega)).trans ((F11 j a (by omega)).trans ((F10 j a (by omega)).trans ((F9 j a (by omega)).trans ((F8 j a (by omega)).trans ((F7 j a (by omega)).trans ((F6 j a).trans ((F5 j a).trans ((F4 j a (by omega)).trans ((F3 j a (by omega)).trans (P1 j a)))))))))))))
  have G2 : ∀ j, 0 < j → j < 58 → w_141 j = w_31 j := fun j a b => (F15 j a).trans ((F14 j a).trans ((F13 j a).trans ((F12 j a (by omega)).trans ((F11 j a (by omega)).trans ((F10 j a (by omega)).trans ((F9 j a (by omega)).trans ((F8 j a (by omega)).trans ((F7 j a (by omega)).trans ((F6 j a).trans ((F5 j a).trans ((F4 j a (by omega)).trans (P2 j a))))))))))))
  have G3 : ∀ j, 0 < j → j < 77 → w_141 j = w_42 j := fun j a b => (F15 j a).trans ((F14 j a).trans ((F13 j a).trans ((F12 j a (by omega)).trans ((F11 j a (by omega)).trans ((F10 j a (by omega)).trans ((F9 j a (by omega)).trans ((F8 j a (by omega)).trans ((F7 j a (by omega)).trans ((F6 j a).trans ((F5 j a).trans (P3 j a)))))))))))
  have G6 : ∀ j, 0 < j → j < 79 → w_141 j = w_66 j := fun j a b => (F15 j a).trans ((F14 j a).trans ((F13 j a).trans ((F12 j a (by omega)).trans ((F11 j a (by omega)).trans ((F10 j a (by omega)).trans ((F9 j a (by omega)).trans ((F8 j a (by omega)).trans (P6 j a))))))))
  have G7 : ∀ j, 0 < j → j < 84 → w_141 j = w_77 j := fun j a b => (F15 j a).trans ((F14 j a).trans ((F13 j a).trans ((F12 j a (by omega)).trans ((F11 j a (by omega)).trans ((F10 j a (by omega)).trans ((F9 j a (by omega)).trans (P7 j a)))))))
  have G8 : ∀ j, 0 < j → j < 95 → w_141 j = w_88 j := fun j a b => (F15 j a).trans ((F14 j a).trans ((F13 j a).trans ((F12 j a (by omega)).trans ((F11 j a (by omega)).trans ((F10 j a (by omega)).trans (P8 j a))))))
  have G9 : ∀ j, 0 < j → j < 96 → w_141 j = w_99 j := fun j a b => (F15 j a).trans ((F14 j a).trans ((F13 j a).trans ((F12 j a (by omega)).trans ((F11 j a (by omega)).trans (P9 j a)))))
  have G10 : ∀ j, 0 < j → j < 97 → w_141 j = w_110 j := fun j a b => (F15 j a).trans ((F14 j a).trans ((F13 j a).trans ((F12 j a (by omega)).trans (P10 j a))))
  have G11 : ∀ j, 0 < j → j < 99 → w_141 j = w_123 j := fun j a b => (F15 j a).trans ((F14 j a).trans ((F13 j a).trans (P11 j a)))
  have W1 := r0.keep (w' := w_141) (fun j a b => G0 j (by omega) (by omega))
  have W2 := r1.keep (w' := w_141) (fun j a b => G1 j (by omega) (by omega))
  have W3 := r2.keep (w' := w_141) (fun j a b => G2 j (by omega) (by omega))
  have W4 := r3.keep (w' := w_141) (fun j a b => G3 j (by omega) (by omega))
  have K1 := r8.keep (w' := w_141) (fun j a b => G8 j (by omega) (by omega))
  have hrep : ∀ j : Int, -1 ≤ rAt (List.replicate 2187 (0 : Int)) j ∧ rAt (List.replicate 2187 (0 : Int)) j ≤ 3000 := fun j => by rw [rAt_rep]; split <;> omega
  have hWk : WkInv w_141 5 0 (rsNew 5) := WkInv.forget K1 ⟨List.length_replicate, ⟨List.length_replicate, List.length_replicate⟩, hrep, ⟨by omega, by omega⟩, ⟨by omega, by omega⟩⟩
  exact pC_of ⟨rfl, e15, W1, hWk, ⟨vS5, W2, vGood_S5⟩, W3, W4, r6.keep (G6 _ (by omega) (by omega)) (G6 _ (by omega) (by omega)), ⟨0, 0, 0, [], [], (G7 79 (by omega) (by omega)).trans r7.1, r7.2.1.keep (G7 _ (by omega) (by omega)) (G7 _ (by omega) (by omega)), r7.2.2.keep (G7 _ (by omega) (by omega)) (G7 _ (by omega) (by omega))⟩, ⟨0, 0, (G9 95 (by omega) (by omega)).trans r9⟩, ⟨0, 0, (G10 96 (by omega) (by omega)).trans r10⟩, ⟨[], r11.keep (G11 _ (by omega) (by omega)) (G11 _ (by omega) (by omega))⟩⟩
