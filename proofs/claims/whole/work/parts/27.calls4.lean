/-! ===== DrawerWall: type, images ===== -/
def byC (v : Int64) (k : Int) : Int32 := ((v.toUInt64 >>> ((iI (8 * k)).toInt64.toUInt64 &&& Int64.toUInt64 63)).toInt64).toInt32 &&& iI 255
def byJ (v : Int64) (k : Int) : Int := (byC v k).toInt
theorem nI_toNat (x : Int32) : iI (x.toBitVec.toNat : Int) = x := by
  rw [← Int32.toBitVec_inj, iI, Int32.toBitVec_ofInt, BitVec.ofInt_natCast, BitVec.ofNat_toNat, BitVec.setWidth_eq]
theorem and255 (x : Int32) : ∃ k : Nat, k ≤ 255 ∧ x &&& iI 255 = iI k := by
  refine ⟨x.toBitVec.toNat &&& 255, Nat.and_le_right, ?_⟩
  have h := iI_and x.toBitVec.toNat 255
  rw [nI_toNat] at h
  exact h
theorem byJ_rng (v : Int64) (k : Int) : 0 ≤ byJ v k ∧ byJ v k ≤ 255 := by
  obtain ⟨a, h1, h2⟩ := and255 ((v.toUInt64 >>> ((iI (8 * k)).toInt64.toUInt64 &&& Int64.toUInt64 63)).toInt64).toInt32
  have h3 : byJ v k = a := by rw [byJ, byC, h2, iI_toInt ⟨by omega, by omega⟩]
  omega
def tyB (v : Int64) : Nat → List Int
  | 0 => []
  | m + 1 => byJ v (m : Int) :: tyB v m
theorem tyB_len (v : Int64) : ∀ m : Nat, (tyB v m).length = m
  | 0 => rfl
  | m + 1 => by rw [tyB, List.length_cons, tyB_len v m]
def fType (tx : List Int) (v : Int64) (k : Int) : Int × List Int := if ¬ (1 ≤ k ∧ k ≤ 8) then (-2, tx) else if 200 < (tx.length : Int) + k then (-4, tx) else ((tx.length : Int) + k, tx ++ tyB v k.toNat)
def fImage (S S0 S1 : vSt) (k0 k1 i : Int) : Int × vSt × vSt × Int × Int := if ¬ (0 ≤ i ∧ i ≤ 1) then (-2, S0, S1, k0, k1) else if i = 0 then (1, S, S1, 1, k1) else (1, S0, S, k0, 1)
def fFrom (S S0 S1 : vSt) (k0 k1 i : Int) : Int × vSt := if ¬ (0 ≤ i ∧ i ≤ 1) then (-2, S) else if i = 0 then (if k0 = 0 then (-3, S) else (1, S0)) else (if k1 = 0 then (-3, S) else (1, S1))
set_option maxRecDepth 100000 in
theorem c_wallCopy {nn : Nat} {w : vWd} {p q : Nat} {n now n2 now2 : Int} {ca po fo ca2 po2 fo2 : Nat} {rs rs2 : Nat → List Int} (h : WallAt w p (n, now, ca, po, fo, rs)) (h2 : WallAt w q (n2, now2, ca2, po2, fo2, rs2)) (hpq : p + 19 ≤ q ∨ q + 19 ≤ p) : Ctr mX4_copyFrom (rm 2) [.ref p, .ref q] nn w (pV (fun w' => WallAt w' p (n2, now2, ca2, po2, fo2, rs2) ∧ frW p w w') nn) := by
  refine Ctr_of (lv := [some (.ref p), some (.ref q)]) (by decide +kernel) rfl rfl ?_
  have ho := h.obj
  have ho2 := h2.obj
  refine V_aload_n (Y := mX4_copyFrom) (pc := 0) dX4_copyFrom_0 rfl ?_
  refine V_aload_n (Y := mX4_copyFrom) (pc := 1) dX4_copyFrom_1 rfl ?_
  apply V_get (Y := mX4_copyFrom) (pc := 2) dX4_copyFrom_2 fl_X4_9
  · assumption
  · rfl
  apply V_putiW (Y := mX4_copyFrom) (pc := 5) dX4_copyFrom_5 fl_X4_9
  · assumption
  · exact Nat.le_of_ble_eq_true rfl
  intro w_5 h_5 f_5
  simp only [List.set_cons_zero, List.set_cons_succ] at h_5
  have q5 := (f_5 q (by omega)).trans ho2
  refine V_aload_n (Y := mX4_copyFrom) (pc := 8) dX4_copyFrom_8 rfl ?_
  refine V_aload_n (Y := mX4_copyFrom) (pc := 9) dX4_copyFrom_9 rfl ?_
  apply V_get (Y := mX4_copyFrom) (pc := 10) dX4_copyFrom_10 fl_X4_15
  · exact q5
  · rfl
  apply V_putiW (Y := mX4_copyFrom) (pc := 13) dX4_copyFrom_13 fl_X4_15
  · exact h_5
  · exact Nat.le_of_ble_eq_true rfl
  intro w_13 h_13 f_13
  simp only [List.set_cons_zero, List.set_cons_succ] at h_13
  have q13 := (f_13 q (by omega)).trans q5
  refine V_aload_n (Y := mX4_copyFrom) (pc := 16) dX4_copyFrom_16 rfl ?_
  refine V_aload_n (Y := mX4_copyFrom) (pc := 17) dX4_copyFrom_17 rfl ?_
  apply V_get (Y := mX4_copyFrom) (pc := 18) dX4_copyFrom_18 fl_X4_18
  · exact q13
  · rfl
  apply V_putiW (Y := mX4_copyFrom) (pc := 21) dX4_copyFrom_21 fl_X4_18
  · exact h_13
  · exact Nat.le_of_ble_eq_true rfl
  intro w_21 h_21 f_21
  simp only [List.set_cons_zero, List.set_cons_succ] at h_21
  have q21 := (f_21 q (by omega)).trans q13
  refine V_aload_n (Y := mX4_copyFrom) (pc := 24) dX4_copyFrom_24 rfl ?_
  refine V_aload_n (Y := mX4_copyFrom) (pc := 25) dX4_copyFrom_25 rfl ?_
  apply V_get (Y := mX4_copyFrom) (pc := 26) dX4_copyFrom_26 fl_X4_21
  · exact q21
  · rfl
  apply V_putiW (Y := mX4_copyFrom) (pc := 29) dX4_copyFrom_29 fl_X4_21
  · exact h_21
  · exact Nat.le_of_ble_eq_true rfl
  intro w_29 h_29 f_29
  simp only [List.set_cons_zero, List.set_cons_succ] at h_29
  have q29 := (f_29 q (by omega)).trans q21
  refine V_aload_n (Y := mX4_copyFrom) (pc := 32) dX4_copyFrom_32 rfl ?_
  refine V_aload_n (Y := mX4_copyFrom) (pc := 33) dX4_copyFrom_33 rfl ?_
  apply V_get (Y := mX4_copyFrom) (pc := 34) dX4_copyFrom_34 fl_X4_24
  · exact q29
  · rfl
  apply V_putiW (Y := mX4_copyFrom) (pc := 37) dX4_copyFrom_37 fl_X4_24
  · exact h_29
  · exact Nat.le_of_ble_eq_true rfl
  intro w_37 h_37 f_37
  simp only [List.set_cons_zero, List.set_cons_succ] at h_37
  have fa : ∀ j, j ≠ p → w_37 j = w j := fun j hj => (f_37 j hj).trans ((f_29 j hj).trans ((f_21 j hj).trans ((f_13 j hj).trans (f_5 j hj))))
  have u0 : WallAt w_37 p (n2, now2, ca2, po2, fo2, rs) := h.fld h_37 fa
  have g0 : WallAt w_37 q (n2, now2, ca2, po2, fo2, rs2) := h2.keep (fun j a b => fa j (by omega))
  clear h_5 h_13 h_21 h_29 q5 q13 q21 q29 h_37
  have o0 := u0.obj
  have m0 := g0.obj
  refine V_aload_n (Y := mX4_copyFrom) (pc := 40) dX4_copyFrom_40 rfl ?_
  apply V_get (Y := mX4_copyFrom) (pc := 41) dX4_copyFrom_41 fl_X4_32
  · assumption
  · rfl
  refine V_aload_n (Y := mX4_copyFrom) (pc := 44) dX4_copyFrom_44 rfl ?_
  apply V_get (Y := mX4_copyFrom) (pc := 45) dX4_copyFrom_45 fl_X4_32
  · assumption
  · rfl
  apply V_vV (Y := mX4_copyFrom) (pc := 48) dX4_copyFrom_48 ok_X2_copyFrom ov_X2_copyFrom ln_X4_92 (c_Row_copyFrom u0.r0 g0.r0 ⟨by omega, by omega, by omega⟩)
  · exact u0.r0.obj
  · rfl
  · rfl
  · rfl
  · rfl
  · rfl
  rintro w_48 ⟨r1, f1⟩
  rw [List.take_of_length_le g0.r0.len.1] at r1
  have u1 := u0.upd 0 (by decide) rfl r1 f1
  have g1 := g0.keep (fun j a b => f1 j (by omega) (by omega))
  have o1 := u1.obj
  have m1 := g1.obj
  refine V_aload_n (Y := mX4_copyFrom) (pc := 51) dX4_copyFrom_51 rfl ?_
  apply V_get (Y := mX4_copyFrom) (pc := 52) dX4_copyFrom_52 fl_X4_36
  · assumption
  · rfl
  refine V_aload_n (Y := mX4_copyFrom) (pc := 55) dX4_copyFrom_55 rfl ?_
  apply V_get (Y := mX4_copyFrom) (pc := 56) dX4_copyFrom_56 fl_X4_36
  · assumption
  · rfl
  apply V_vV (Y := mX4_copyFrom) (pc := 59) dX4_copyFrom_59 ok_X2_copyFrom ov_X2_copyFrom ln_X4_92 (c_Row_copyFrom u1.r1 g1.r1 ⟨by omega, by omega, by omega⟩)
  · exact u1.r1.obj
  · rfl
  · rfl
  · rfl
  · rfl
  · rfl
  rintro w_59 ⟨r2, f2⟩
  rw [List.take_of_length_le g1.r1.len.1] at r2
  have u2 := u1.upd 1 (by decide) rfl r2 f2
  have g2 := g1.keep (fun j a b => f2 j (by omega) (by omega))
  have o2 := u2.obj
  have m2 := g2.obj
  refine V_aload_n (Y := mX4_copyFrom) (pc := 62) dX4_copyFrom_62 rfl ?_
  apply V_get (Y := mX4_copyFrom) (pc := 63) dX4_copyFrom_63 fl_X4_39
  · assumption
  · rfl
  refine V_aload_n (Y := mX4_copyFrom) (pc := 66) dX4_copyFrom_66 rfl ?_
  apply V_get (Y := mX4_copyFrom) (pc := 67) dX4_copyFrom_67 fl_X4_39
  · assumption
  · rfl
  apply V_vV (Y := mX4_copyFrom) (pc := 70) dX4_copyFrom_70 ok_X2_copyFrom ov_X2_copyFrom ln_X4_92 (c_Row_copyFrom u2.r2 g2.r2 ⟨by omega, by omega, by omega⟩)
  · exact u2.r2.obj
  · rfl
  · rfl
  · rfl
  · rfl
  · rfl
  rintro w_70 ⟨r3, f3⟩
  rw [List.take_of_length_le g2.r2.len.1] at r3
  have u3 := u2.upd 2 (by decide) rfl r3 f3
  have g3 := g2.keep (fun j a b => f3 j (by omega) (by omega))
  have o3 := u3.obj
  have m3 := g3.obj
  refine V_aload_n (Y := mX4_copyFrom) (pc := 73) dX4_copyFrom_73 rfl ?_
  apply V_get (Y := mX4_copyFrom) (pc := 74) dX4_copyFrom_74 fl_X4_42
  · assumption
  · rfl
  refine V_aload_n (Y := mX4_copyFrom) (pc := 77) dX4_copyFrom_77 rfl ?_
  apply V_get (Y := mX4_copyFrom) (pc := 78) dX4_copyFrom_78 fl_X4_42
  · assumption
  · rfl
  apply V_vV (Y := mX4_copyFrom) (pc := 81) dX4_copyFrom_81 ok_X2_copyFrom ov_X2_copyFrom ln_X4_92 (c_Row_copyFrom u3.r3 g3.r3 ⟨by omega, by omega, by omega⟩)
  · exact u3.r3.obj
  · rfl
  · rfl
  · rfl
  · rfl
  · rfl
  rintro w_81 ⟨r4, f4⟩
  rw [List.take_of_length_le g3.r3.len.1] at r4
  have u4 := u3.upd 3 (by decide) rfl r4 f4
  have g4 := g3.keep (fun j a b => f4 j (by omega) (by omega))
  have o4 := u4.obj
  have m4 := g4.obj
  refine V_aload_n (Y := mX4_copyFrom) (pc := 84) dX4_copyFrom_84 rfl ?_
  apply V_get (Y := mX4_copyFrom) (pc := 85) dX4_copyFrom_85 fl_X4_45
  · assumption
  · rfl
  refine V_aload_n (Y := mX4_copyFrom) (pc := 88) dX4_copyFrom_88 rfl ?_
  apply V_get (Y := mX4_copyFrom) (pc := 89) dX4_copyFrom_89 fl_X4_45
  · assumption
  · rfl
  apply V_vV (Y := mX4_copyFrom) (pc := 92) dX4_copyFrom_92 ok_X2_copyFrom ov_X2_copyFrom ln_X4_92 (c_Row_copyFrom u4.r4 g4.r4 ⟨by omega, by omega, by omega⟩)
  · exact u4.r4.obj
  · rfl
  · rfl
  · rfl
  · rfl
  · rfl
  rintro w_92 ⟨r5, f5⟩
  rw [List.take_of_length_le g4.r4.len.1] at r5
  have u5 := u4.upd 4 (by decide) rfl r5 f5
  have g5 := g4.keep (fun j a b => f5 j (by omega) (by omega))
  have o5 := u5.obj
  have m5 := g5.obj
  refine V_aload_n (Y := mX4_copyFrom) (pc := 95) dX4_copyFrom_95 rfl ?_
  apply V_get (Y := mX4_copyFrom) (pc := 96) dX4_copyFrom_96 fl_X4_48
  · assumption
  · rfl
  refine V_aload_n (Y := mX4_copyFrom) (pc := 99) dX4_copyFrom_99 rfl ?_
  apply V_get (Y := mX4_copyFrom) (pc := 100) dX4_copyFrom_100 fl_X4_48
  · assumption
  · rfl
  apply V_vV (Y := mX4_copyFrom) (pc := 103) dX4_copyFrom_103 ok_X2_copyFrom ov_X2_copyFrom ln_X4_92 (c_Row_copyFrom u5.r5 g5.r5 ⟨by omega, by omega, by omega⟩)
  · exact u5.r5.obj
  · rfl
  · rfl
  · rfl
  · rfl
  · rfl
  rintro w_103 ⟨r6, f6⟩
  rw [List.take_of_length_le g5.r5.len.1] at r6
  have u6 := u5.upd 5 (by decide) rfl r6 f6
  have g6 := g5.keep (fun j a b => f6 j (by omega) (by omega))
  have o6 := u6.obj
  have m6 := g6.obj
  refine V_aload_n (Y := mX4_copyFrom) (pc := 106) dX4_copyFrom_106 rfl ?_
  apply V_get (Y := mX4_copyFrom) (pc := 107) dX4_copyFrom_107 fl_X4_51
  · assumption
  · rfl
  refine V_aload_n (Y := mX4_copyFrom) (pc := 110) dX4_copyFrom_110 rfl ?_
  apply V_get (Y := mX4_copyFrom) (pc := 111) dX4_copyFrom_111 fl_X4_51
  · assumption
  · rfl
  apply V_vV (Y := mX4_copyFrom) (pc := 114) dX4_copyFrom_114 ok_X2_copyFrom ov_X2_copyFrom ln_X4_92 (c_Row_copyFrom u6.r6 g6.r6 ⟨by omega, by omega, by omega⟩)
  · exact u6.r6.obj
  · rfl
  · rfl
  · rfl
  · rfl
  · rfl
  rintro w_114 ⟨r7, f7⟩
  rw [List.take_of_length_le g6.r6.len.1] at r7
  have u7 := u6.upd 6 (by decide) rfl r7 f7
  have g7 := g6.keep (fun j a b => f7 j (by omega) (by omega))
  have o7 := u7.obj
  have m7 := g7.obj
  refine V_aload_n (Y := mX4_copyFrom) (pc := 117) dX4_copyFrom_117 rfl ?_
  apply V_get (Y := mX4_copyFrom) (pc := 118) dX4_copyFrom_118 fl_X4_54
  · assumption
  · rfl
  refine V_aload_n (Y := mX4_copyFrom) (pc := 121) dX4_copyFrom_121 rfl ?_
  apply V_get (Y := mX4_copyFrom) (pc := 122) dX4_copyFrom_122 fl_X4_54
  · assumption
  · rfl
  apply V_vV (Y := mX4_copyFrom) (pc := 125) dX4_copyFrom_125 ok_X2_copyFrom ov_X2_copyFrom ln_X4_92 (c_Row_copyFrom u7.r7 g7.r7 ⟨by omega, by omega, by omega⟩)
  · exact u7.r7.obj
  · rfl
  · rfl
  · rfl
  · rfl
  · rfl
  rintro w_125 ⟨r8, f8⟩
  rw [List.take_of_length_le g7.r7.len.1] at r8
  have u8 := u7.upd 7 (by decide) rfl r8 f8
  have g8 := g7.keep (fun j a b => f8 j (by omega) (by omega))
  have o8 := u8.obj
  have m8 := g8.obj
  refine V_aload_n (Y := mX4_copyFrom) (pc := 128) dX4_copyFrom_128 rfl ?_
  apply V_get (Y := mX4_copyFrom) (pc := 129) dX4_copyFrom_129 fl_X4_57
  · assumption
  · rfl
  refine V_aload_n (Y := mX4_copyFrom) (pc := 132) dX4_copyFrom_132 rfl ?_
  apply V_get (Y := mX4_copyFrom) (pc := 133) dX4_copyFrom_133 fl_X4_57
  · assumption
  · rfl
  apply V_vV (Y := mX4_copyFrom) (pc := 136) dX4_copyFrom_136 ok_X2_copyFrom ov_X2_copyFrom ln_X4_92 (c_Row_copyFrom u8.r8 g8.r8 ⟨by omega, by omega, by omega⟩)
  · exact u8.r8.obj
  · rfl
  · rfl
  · rfl
  · rfl
  · rfl
  rintro w_136 ⟨r9, f9⟩
  rw [List.take_of_length_le g8.r8.len.1] at r9
  have u9 := u8.upd 8 (by decide) rfl r9 f9
  refine V_vret (Y := mX4_copyFrom) (pc := 139) dX4_copyFrom_139 rfl (Nat.le_of_ble_eq_true rfl) (Nat.le_of_ble_eq_true rfl) ?_
  refine pV_of ⟨u9.congr (S := (n, now, ca, po, fo, rs)) (fun i hi => ?_), fun j hj => (f9 j (by omega) (by omega)).trans ((f8 j (by omega) (by omega)).trans ((f7 j (by omega) (by omega)).trans ((f6 j (by omega) (by omega)).trans ((f5 j (by omega) (by omega)).trans ((f4 j (by omega) (by omega)).trans ((f3 j (by omega) (by omega)).trans ((f2 j (by omega) (by omega)).trans ((f1 j (by omega) (by omega)).trans (fa j (by omega))))))))))⟩
  have hc : i = 0 ∨ i = 1 ∨ i = 2 ∨ i = 3 ∨ i = 4 ∨ i = 5 ∨ i = 6 ∨ i = 7 ∨ i = 8 := by omega
  rcases hc with rfl | rfl | rfl | rfl | rfl | rfl | rfl | rfl | rfl <;> rfl
section CLS
variable {nn : Nat} {w : vWd} {n now : Int} {ca po fo : Nat} {rs : Nat → List Int} {S0 S1 : vSt} {k0 k1 rb rn rf : Int} {tx : List Int}
set_option maxRecDepth 100000 in
theorem c_imageAt {i : Int} (ho : w 0 = some (xO k0 k1 rb rn rf)) (hi : inR i) {q : Nat} (hq : (i = 0 ∧ q = 39) ∨ (i ≠ 0 ∧ q = 58)) : Ctr mX5_imageAt (rm 0) [.ref 0, vI i] nn w (pR (.ref q) nn w) := by
  refine Ctr_of (lv := [some (.ref 0), some (vI i)]) (by decide +kernel) rfl rfl ?_
  refine V_iload_n (Y := mX5_imageAt) (pc := 0) dX5_imageAt_0 rfl ?_
  refine V_if_ne (tgt := 11) (Y := mX5_imageAt) (pc := 1) dX5_imageAt_1 (by decide) ⟨by omega, by omega⟩ (fun h_1 => ?_) (fun h_1 => ?_)
  · refine V_aload_n (Y := mX5_imageAt) (pc := 11) dX5_imageAt_11 rfl ?_
    apply V_get (Y := mX5_imageAt) (pc := 12) dX5_imageAt_12 fl_X5_22
    · assumption
    · rfl
    refine V_aret (Y := mX5_imageAt) (pc := 15) dX5_imageAt_15 rfl (Or.inl ⟨_, rfl⟩) (Nat.le_of_ble_eq_true rfl) (Nat.le_of_ble_eq_true rfl) ?_
    first
      | (exfalso; omega)
      | (have e : q = 39 := by omega
         subst e; exact pR_of rfl)
      | (have e : q = 58 := by omega
         subst e; exact pR_of rfl)
  · refine V_aload_n (Y := mX5_imageAt) (pc := 4) dX5_imageAt_4 rfl ?_
    apply V_get (Y := mX5_imageAt) (pc := 5) dX5_imageAt_5 fl_X5_19
    · assumption
    · rfl
    refine V_goto (tgt := 15) (Y := mX5_imageAt) (pc := 8) dX5_imageAt_8 (by decide) ?_
    refine V_aret (Y := mX5_imageAt) (pc := 15) dX5_imageAt_15 rfl (Or.inl ⟨_, rfl⟩) (Nat.le_of_ble_eq_true rfl) (Nat.le_of_ble_eq_true rfl) ?_
    first
      | (exfalso; omega)
      | (have e : q = 39 := by omega
         subst e; exact pR_of rfl)
      | (have e : q = 58 := by omega
         subst e; exact pR_of rfl)
set_option maxRecDepth 100000 in
theorem lp_type {v : Int64} {k : Int} (hk : 1 ≤ k ∧ k ≤ 8) (hs : (tx.length : Int) + k ≤ 200) {Q : vPost} (hQ : ∀ w', RowAt w' 77 200 (tx ++ tyB v k.toNat) → fr2 77 w w' → Q (some (vI ((tx.length : Int) + k))) nn w') : ∀ (m : Nat) (i : Int) (w' : vWd) (l : List Int), i = (m : Int) - 1 → m ≤ 8 → (l.length : Int) + m = tx.length + k → w' 0 = some (xO k0 k1 rb rn rf) → RowAt w' 77 200 l → l ++ tyB v m = tx ++ tyB v k.toNat → fr2 77 w w' →
    V mX5_type (rm 3) Q 45 [some (.ref 0), some (.long v), none, some (vI k), some (vI i)] [] nn w' 0 0 := by
  intro m
  induction m with
  | zero =>
    intro i w' l h1 h8 h2 ho hr hl hf
    rw [tyB, List.append_nil] at hl
    refine V_iload (Y := mX5_type) (pc := 45) dX5_type_45 rfl ?_
    refine V_if_lt (tgt := 75) (Y := mX5_type) (pc := 47) dX5_type_47 (by decide) ⟨by omega, by omega⟩ (fun h_47 => ?_) (fun h_47 => absurd h_47 (by omega))
    refine V_aload_n (Y := mX5_type) (pc := 75) dX5_type_75 rfl ?_
    apply V_get (Y := mX5_type) (pc := 76) dX5_type_76 fl_X5_37
    · assumption
    · rfl
    apply V_vR (Y := mX5_type) (pc := 79) dX5_type_79 ok_X2_size ov_X2_size ln_X5_109 (c_Row_size hr)
    · exact hr.obj
    · rfl
    · rfl
    · rfl
    · rfl
    · rfl
    refine V_iret (Y := mX5_type) (pc := 82) dX5_type_82 rfl (Nat.le_of_ble_eq_true rfl) (Nat.le_of_ble_eq_true rfl) ?_
    have e := hQ w' (hl ▸ hr) hf
    rw [show (l.length : Int) = (tx.length : Int) + k by omega]
    exact e
  | succ m ih =>
    intro i w' l h1 h8 h2 ho hr hl hf
    have hi : i = (m : Int) := by omega
    subst hi
    rw [tyB] at hl
    refine V_iload (Y := mX5_type) (pc := 45) dX5_type_45 rfl ?_
    refine V_if_lt (tgt := 75) (Y := mX5_type) (pc := 47) dX5_type_47 (by decide) ⟨by omega, by omega⟩ (fun h_47 => absurd h_47 (by omega)) (fun h_47 => ?_)
    refine V_aload_n (Y := mX5_type) (pc := 50) dX5_type_50 rfl ?_
    apply V_get (Y := mX5_type) (pc := 51) dX5_type_51 fl_X5_37
    · assumption
    · rfl
    refine V_lload_n (Y := mX5_type) (pc := 54) dX5_type_54 rfl ?_
    refine V_bipush (Y := mX5_type) (pc := 55) dX5_type_55 ⟨by decide, by decide⟩ ?_
    refine V_iload (Y := mX5_type) (pc := 57) dX5_type_57 rfl ?_
    refine V_imul (Y := mX5_type) (pc := 59) dX5_type_59 ?_
    refine V_lushr (Y := mX5_type) (pc := 60) dX5_type_60 (rfl) ?_
    refine V_l2i (Y := mX5_type) (pc := 61) dX5_type_61 (rfl) ?_
    refine V_sipush (Y := mX5_type) (pc := 62) dX5_type_62 ⟨by decide, by decide⟩ ?_
    refine V_iand (Y := mX5_type) (pc := 65) dX5_type_65 ((iI_self _).symm) ?_
    apply V_vV (Y := mX5_type) (pc := 66) dX5_type_66 ok_X2_add ov_X2_add ln_X5_113 (c_Row_add (v := byJ v m) hr)
    · exact hr.obj
    · rfl
    · rfl
    · rfl
    · rfl
    · rfl
    rintro w_66 ⟨g1, f1⟩
    rw [show rAdd 200 l (byJ v m) = l ++ [byJ v m] from if_pos (by omega)] at g1
    refine V_iinc (Y := mX5_type) (pc := 69) dX5_type_69 rfl rfl ?_
    refine V_goto (tgt := 45) (Y := mX5_type) (pc := 72) dX5_type_72 (by decide) ?_
    exact ih _ w_66 (l ++ [byJ v m]) (by omega) (by omega) (by rw [List.length_append]; show ((l.length + 1 : Nat) : Int) + m = _; omega) ((f1 0 (by omega) (by omega)).trans ho) g1 (by rw [List.append_assoc]; exact hl) (fun j a b => (f1 j a b).trans (hf j a b))
set_option maxRecDepth 100000 in
theorem cx_type {v : Int64} {k : Int} (h : XInv w (n, now, ca, po, fo, rs) S0 S1 k0 k1 tx rb rn rf) (hk : inR k) : Ctr mX5_type (rm 3) [.ref 0, .long v, vI k] nn w (pI (fun z w' => z = (fType tx v k).1 ∧ XInv w' (n, now, ca, po, fo, rs) S0 S1 k0 k1 (fType tx v k).2 (tl1 (-2) z rb) (tl1 (-3) z rn) (tl1 (-4) z rf) ∧ frX w w') nn) := by
  refine Ctr_of (lv := [some (.ref 0), some (.long v), none, some (vI k), none]) (by decide +kernel) rfl rfl ?_
  obtain ⟨ho, hW, hK, hr⟩ := h
  have hr0 := hr
  obtain ⟨h1, h2, h3, h4, h5, h6, h7, h8⟩ := hr
  have hl := h4.len
  refine V_iload_n (Y := mX5_type) (pc := 0) dX5_type_0 rfl ?_
  refine V_iconst (Y := mX5_type) (pc := 1) dX5_type_1 ?_
  refine V_icmp_lt (tgt := 11) (Y := mX5_type) (pc := 2) dX5_type_2 (by decide) ⟨by omega, by omega⟩ ⟨by omega, by omega⟩ (fun h_2 => ?_) (fun h_2 => ?_)
  · refine V_aload_n (Y := mX5_type) (pc := 11) dX5_type_11 rfl ?_
    refine V_bipush (Y := mX5_type) (pc := 12) dX5_type_12 ⟨by decide, by decide⟩ ?_
    apply V_vI (Y := mX5_type) (pc := 14) dX5_type_14 ok_X5_counted ov_X5_counted ln_X5_85 (c_told (z := -2) ho ⟨by omega, by omega⟩)
    · assumption
    · rfl
    · rfl
    · rfl
    · rfl
    · rfl
    rintro z_14 w_14 ⟨hz2, g3, f3⟩
    subst hz2
    refine V_iret (Y := mX5_type) (pc := 17) dX5_type_17 rfl (Nat.le_of_ble_eq_true rfl) (Nat.le_of_ble_eq_true rfl) ?_
    rw [show fType tx v k = (-2, tx) from if_pos (by omega)]
    exact pI_of ⟨rfl, XInv.told (S' := (n, now, ca, po, fo, rs)) hr0 hW hK (fun j hj => rfl) g3 f3⟩
  · refine V_iload_n (Y := mX5_type) (pc := 5) dX5_type_5 rfl ?_
    refine V_bipush (Y := mX5_type) (pc := 6) dX5_type_6 ⟨by decide, by decide⟩ ?_
    refine V_icmp_le (tgt := 18) (Y := mX5_type) (pc := 8) dX5_type_8 (by decide) ⟨by omega, by omega⟩ ⟨by omega, by omega⟩ (fun h_8 => ?_) (fun h_8 => ?_)
    · refine V_aload_n (Y := mX5_type) (pc := 18) dX5_type_18 rfl ?_
      apply V_get (Y := mX5_type) (pc := 19) dX5_type_19 fl_X5_37
      · assumption
      · rfl
      apply V_vR (Y := mX5_type) (pc := 22) dX5_type_22 ok_X2_size ov_X2_size ln_X5_109 (c_Row_size h4)
      · exact h4.obj
      · rfl
      · rfl
      · rfl
      · rfl
      · rfl
      refine V_iload_n (Y := mX5_type) (pc := 25) dX5_type_25 rfl ?_
      refine V_iadd (Y := mX5_type) (pc := 26) dX5_type_26 ?_
      refine V_sipush (Y := mX5_type) (pc := 27) dX5_type_27 ⟨by decide, by decide⟩ ?_
      refine V_icmp_le (tgt := 40) (Y := mX5_type) (pc := 30) dX5_type_30 (by decide) ⟨by omega, by omega⟩ ⟨by omega, by omega⟩ (fun h_30 => ?_) (fun h_30 => ?_)
      · refine V_iload_n (Y := mX5_type) (pc := 40) dX5_type_40 rfl ?_
        refine V_iconst (Y := mX5_type) (pc := 41) dX5_type_41 ?_
        refine V_isub (Y := mX5_type) (pc := 42) dX5_type_42 ?_
        refine V_istore (Y := mX5_type) (pc := 43) dX5_type_43 rfl ?_
        refine lp_type (w := w) (tx := tx) (nn := nn) (v := v) (k := k) (by omega) (by omega) ?_ k.toNat (k - 1) w tx (by omega) (by omega) (by omega) ho h4 rfl (fr2.refl _ _)
        intro w' g1 k1
        have e : fType tx v k = ((tx.length : Int) + k, tx ++ tyB v k.toNat) := (if_neg (by omega)).trans (if_neg (by omega))
        rw [e]
        refine pI_of ⟨rfl, XInv.tl0 ⟨(k1 0 (by omega) (by omega)).trans ho, hW.keep (fun j a b => k1 j (by omega) (by omega)), hK.keep (fun j a b => k1 j (by omega) (by omega)), ?_⟩ (by omega), fun j hj => k1 j (by omega) (by omega)⟩
        obtain ⟨D, hD, hD2⟩ := h1
        obtain ⟨a, b, h6⟩ := h6
        obtain ⟨a2, b2, h7⟩ := h7
        obtain ⟨l, h8⟩ := h8
        exact ⟨⟨D, hD.keep (fun j a b => k1 j (by omega) (by omega)), hD2⟩, h2.keep (fun j a b => k1 j (by omega) (by omega)), h3.keep (fun j a b => k1 j (by omega) (by omega)), g1, h5.keep (fun j a b => k1 j (by omega) (by omega)), ⟨a, b, (k1 _ (by omega) (by omega)).trans h6⟩, ⟨a2, b2, (k1 _ (by omega) (by omega)).trans h7⟩, ⟨l, h8.keep (k1 _ (by omega) (by omega)) (k1 _ (by omega) (by omega))⟩⟩
      · refine V_aload_n (Y := mX5_type) (pc := 33) dX5_type_33 rfl ?_
        refine V_bipush (Y := mX5_type) (pc := 34) dX5_type_34 ⟨by decide, by decide⟩ ?_
        apply V_vI (Y := mX5_type) (pc := 36) dX5_type_36 ok_X5_counted ov_X5_counted ln_X5_85 (c_told (z := -4) ho ⟨by omega, by omega⟩)
        · assumption
        · rfl
        · rfl
        · rfl
        · rfl
        · rfl
        rintro z_36 w_36 ⟨hz2, g3, f3⟩
        subst hz2
        refine V_iret (Y := mX5_type) (pc := 39) dX5_type_39 rfl (Nat.le_of_ble_eq_true rfl) (Nat.le_of_ble_eq_true rfl) ?_
        rw [show fType tx v k = (-4, tx) from (if_neg (by omega)).trans (if_pos (by omega))]
        exact pI_of ⟨rfl, XInv.told (S' := (n, now, ca, po, fo, rs)) hr0 hW hK (fun j hj => rfl) g3 f3⟩
    · refine V_aload_n (Y := mX5_type) (pc := 11) dX5_type_11 rfl ?_
      refine V_bipush (Y := mX5_type) (pc := 12) dX5_type_12 ⟨by decide, by decide⟩ ?_
      apply V_vI (Y := mX5_type) (pc := 14) dX5_type_14 ok_X5_counted ov_X5_counted ln_X5_85 (c_told (z := -2) ho ⟨by omega, by omega⟩)
      · assumption
      · rfl
      · rfl
      · rfl
      · rfl
      · rfl
      rintro z_14 w_14 ⟨hz2, g3, f3⟩
      subst hz2
      refine V_iret (Y := mX5_type) (pc := 17) dX5_type_17 rfl (Nat.le_of_ble_eq_true rfl) (Nat.le_of_ble_eq_true rfl) ?_
      rw [show fType tx v k = (-2, tx) from if_pos (by omega)]
      exact pI_of ⟨rfl, XInv.told (S' := (n, now, ca, po, fo, rs)) hr0 hW hK (fun j hj => rfl) g3 f3⟩
end CLS
