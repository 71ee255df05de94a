/-! ===== the nearest of some drawers; two of Integer's own ===== -/
theorem V_iaddR {Y : vMeth} {R : Room} {Q : vPost} {pc : Nat} {lv : vLs} {st : List Value} {n : Nat} {w : vWd} {kc ks : Nat} {x y v : Int32} (hd : decode Y.2.1 pc = .ok (.iadd, 1)) (hv : x + y = v) (k : V Y R Q (pc + 1) lv (.int v :: st) n w kc ks) : V Y R Q pc lv (.int y :: .int x :: st) n w kc ks := by
  intro p l e s m args below meth c b sa cA D H locs ls E hw hS hb hl
  subst hv
  exact lv_iadd E.1 E.2.1 hd (k p l e s m args below meth c b sa cA D H locs ls E hw hS hb hl)
theorem V_isubR {Y : vMeth} {R : Room} {Q : vPost} {pc : Nat} {lv : vLs} {st : List Value} {n : Nat} {w : vWd} {kc ks : Nat} {x y v : Int32} (hd : decode Y.2.1 pc = .ok (.isub, 1)) (hv : x - y = v) (k : V Y R Q (pc + 1) lv (.int v :: st) n w kc ks) : V Y R Q pc lv (.int y :: .int x :: st) n w kc ks := by
  intro p l e s m args below meth c b sa cA D H locs ls E hw hS hb hl
  subst hv
  exact lv_isub E.1 E.2.1 hd (k p l e s m args below meth c b sa cA D H locs ls E hw hS hb hl)
def us (s : Int) (x : Int32) : Int32 := (x.toUInt32 >>> ((iI s).toUInt32 &&& Int32.toUInt32 31)).toInt32
def bc1 (x : Int32) : Int32 := x - (us 1 x &&& 1431655765)
def bc2 (x : Int32) : Int32 := (x &&& 858993459) + (us 2 x &&& 858993459)
def bc3 (x : Int32) : Int32 := (x + us 4 x) &&& 252645135
def bc4 (x : Int32) : Int32 := x + us 8 x
def bc5 (x : Int32) : Int32 := (x + us 16 x) &&& iI 63
def pcB (a : Nat) : Nat → Int
  | 0 => 0
  | m + 1 => pcB a m + (if a.testBit m = true then 1 else 0)
theorem bc_key : ∀ a, a < 128 → bc5 (bc4 (bc3 (bc2 (bc1 (iI ((a : Nat) : Int)))))) = iI (pcB a 7) := by decide +kernel
set_option maxRecDepth 100000 in
theorem c_bitCount {n : Nat} {w : vWd} {a : Nat} (ha : a < 128) : Ctr mJ6_bitCount_0f7a4 (rm 0) [vI (a : Int)] n w (pR (vI (pcB a 7)) n w) := by
  refine Ctr_ofF (lv := [some (vI (a : Int))]) (by decide +kernel) rfl rfl ?_
  refine V_iload_n (Y := mJ6_bitCount_0f7a4) (pc := 0) dJ6_bitCount_0f7a4_0 rfl ?_
  refine V_iload_n (Y := mJ6_bitCount_0f7a4) (pc := 1) dJ6_bitCount_0f7a4_1 rfl ?_
  refine V_iconst (Y := mJ6_bitCount_0f7a4) (pc := 2) dJ6_bitCount_0f7a4_2 ?_
  refine V_iushr (Y := mJ6_bitCount_0f7a4) (pc := 3) dJ6_bitCount_0f7a4_3 (rfl) ?_
  refine V_ldcw (Y := mJ6_bitCount_0f7a4) (pc := 4) dJ6_bitCount_0f7a4_4 ck_J6_265 ?_
  refine V_iand (Y := mJ6_bitCount_0f7a4) (pc := 7) dJ6_bitCount_0f7a4_7 (rfl) ?_
  refine V_isubR (Y := mJ6_bitCount_0f7a4) (pc := 8) dJ6_bitCount_0f7a4_8 rfl ?_
  refine V_istore_n (Y := mJ6_bitCount_0f7a4) (pc := 9) dJ6_bitCount_0f7a4_9 rfl ?_
  refine V_iload_n (Y := mJ6_bitCount_0f7a4) (pc := 10) dJ6_bitCount_0f7a4_10 rfl ?_
  refine V_ldcw (Y := mJ6_bitCount_0f7a4) (pc := 11) dJ6_bitCount_0f7a4_11 ck_J6_266 ?_
  refine V_iand (Y := mJ6_bitCount_0f7a4) (pc := 14) dJ6_bitCount_0f7a4_14 (rfl) ?_
  refine V_iload_n (Y := mJ6_bitCount_0f7a4) (pc := 15) dJ6_bitCount_0f7a4_15 rfl ?_
  refine V_iconst (Y := mJ6_bitCount_0f7a4) (pc := 16) dJ6_bitCount_0f7a4_16 ?_
  refine V_iushr (Y := mJ6_bitCount_0f7a4) (pc := 17) dJ6_bitCount_0f7a4_17 (rfl) ?_
  refine V_ldcw (Y := mJ6_bitCount_0f7a4) (pc := 18) dJ6_bitCount_0f7a4_18 ck_J6_266 ?_
  refine V_iand (Y := mJ6_bitCount_0f7a4) (pc := 21) dJ6_bitCount_0f7a4_21 (rfl) ?_
  refine V_iaddR (Y := mJ6_bitCount_0f7a4) (pc := 22) dJ6_bitCount_0f7a4_22 rfl ?_
  refine V_istore_n (Y := mJ6_bitCount_0f7a4) (pc := 23) dJ6_bitCount_0f7a4_23 rfl ?_
  refine V_iload_n (Y := mJ6_bitCount_0f7a4) (pc := 24) dJ6_bitCount_0f7a4_24 rfl ?_
  refine V_iload_n (Y := mJ6_bitCount_0f7a4) (pc := 25) dJ6_bitCount_0f7a4_25 rfl ?_
  refine V_iconst (Y := mJ6_bitCount_0f7a4) (pc := 26) dJ6_bitCount_0f7a4_26 ?_
  refine V_iushr (Y := mJ6_bitCount_0f7a4) (pc := 27) dJ6_bitCount_0f7a4_27 (rfl) ?_
  refine V_iaddR (Y := mJ6_bitCount_0f7a4) (pc := 28) dJ6_bitCount_0f7a4_28 rfl ?_
  refine V_ldcw (Y := mJ6_bitCount_0f7a4) (pc := 29) dJ6_bitCount_0f7a4_29 ck_J6_267 ?_
  refine V_iand (Y := mJ6_bitCount_0f7a4) (pc := 32) dJ6_bitCount_0f7a4_32 (rfl) ?_
  refine V_istore_n (Y := mJ6_bitCount_0f7a4) (pc := 33) dJ6_bitCount_0f7a4_33 rfl ?_
  refine V_iload_n (Y := mJ6_bitCount_0f7a4) (pc := 34) dJ6_bitCount_0f7a4_34 rfl ?_
  refine V_iload_n (Y := mJ6_bitCount_0f7a4) (pc := 35) dJ6_bitCount_0f7a4_35 rfl ?_
  refine V_bipush (Y := mJ6_bitCount_0f7a4) (pc := 36) dJ6_bitCount_0f7a4_36 ⟨by decide, by decide⟩ ?_
  refine V_iushr (Y := mJ6_bitCount_0f7a4) (pc := 38) dJ6_bitCount_0f7a4_38 (rfl) ?_
  refine V_iaddR (Y := mJ6_bitCount_0f7a4) (pc := 39) dJ6_bitCount_0f7a4_39 rfl ?_
  refine V_istore_n (Y := mJ6_bitCount_0f7a4) (pc := 40) dJ6_bitCount_0f7a4_40 rfl ?_
  refine V_iload_n (Y := mJ6_bitCount_0f7a4) (pc := 41) dJ6_bitCount_0f7a4_41 rfl ?_
  refine V_iload_n (Y := mJ6_bitCount_0f7a4) (pc := 42) dJ6_bitCount_0f7a4_42 rfl ?_
  refine V_bipush (Y := mJ6_bitCount_0f7a4) (pc := 43) dJ6_bitCount_0f7a4_43 ⟨by decide, by decide⟩ ?_
  refine V_iushr (Y := mJ6_bitCount_0f7a4) (pc := 45) dJ6_bitCount_0f7a4_45 (rfl) ?_
  refine V_iaddR (Y := mJ6_bitCount_0f7a4) (pc := 46) dJ6_bitCount_0f7a4_46 rfl ?_
  refine V_istore_n (Y := mJ6_bitCount_0f7a4) (pc := 47) dJ6_bitCount_0f7a4_47 rfl ?_
  refine V_iload_n (Y := mJ6_bitCount_0f7a4) (pc := 48) dJ6_bitCount_0f7a4_48 rfl ?_
  refine V_bipush (Y := mJ6_bitCount_0f7a4) (pc := 49) dJ6_bitCount_0f7a4_49 ⟨by decide, by decide⟩ ?_
  refine V_iand (Y := mJ6_bitCount_0f7a4) (pc := 51) dJ6_bitCount_0f7a4_51 (rfl) ?_
  refine V_iret (Y := mJ6_bitCount_0f7a4) (pc := 52) dJ6_bitCount_0f7a4_52 rfl (Nat.le_of_ble_eq_true rfl) (Nat.le_of_ble_eq_true rfl) ?_
  exact pR_of (congrArg Value.int (bc_key a ha))
theorem iI_ushr {X : Nat} (h : X < 4294967296) (k : Nat) (hk : (((iI (k : Int)).toUInt32 &&& Int32.toUInt32 31).toBitVec % 32).toNat = k) : ((iI (X : Int)).toUInt32 >>> ((iI (k : Int)).toUInt32 &&& Int32.toUInt32 31)).toInt32 = iI ((X / 2 ^ k : Nat) : Int) := by
  have := pk_ushrN (n := X) h (iI (k : Int)) k hk
  rw [nI_iI, nI_iI] at this
  exact this
set_option maxRecDepth 100000 in
theorem c_ntz {n : Nat} {w : vWd} {a : Nat} (ha : a < 128) : Ctr mJ6_numberOfTrailingZeros_0f7a4 (rm 0) [vI (a : Int)] n w (pI (fun z w' => isNtz a z ∧ w' = w) n) := by
  refine Ctr_ofF (lv := [some (vI (a : Int)), none]) (by decide +kernel) rfl rfl ?_
  obtain ⟨x, r, hx, hcase⟩ := ntz_x a ha
  rcases hcase with ⟨h0, hx1, hr⟩ | ⟨k, hk, hr, hx1, hb, hj⟩
  · subst hx1
    refine V_iload_n (Y := mJ6_numberOfTrailingZeros_0f7a4) (pc := 0) dJ6_numberOfTrailingZeros_0f7a4_0 rfl ?_
    refine V_iconst (Y := mJ6_numberOfTrailingZeros_0f7a4) (pc := 1) dJ6_numberOfTrailingZeros_0f7a4_1 ?_
    refine V_ixor (Y := mJ6_numberOfTrailingZeros_0f7a4) (pc := 2) dJ6_numberOfTrailingZeros_0f7a4_2 (rfl) ?_
    refine V_iload_n (Y := mJ6_numberOfTrailingZeros_0f7a4) (pc := 3) dJ6_numberOfTrailingZeros_0f7a4_3 rfl ?_
    refine V_iconst (Y := mJ6_numberOfTrailingZeros_0f7a4) (pc := 4) dJ6_numberOfTrailingZeros_0f7a4_4 ?_
    refine V_isub (Y := mJ6_numberOfTrailingZeros_0f7a4) (pc := 5) dJ6_numberOfTrailingZeros_0f7a4_5 ?_
    refine V_iand (Y := mJ6_numberOfTrailingZeros_0f7a4) (pc := 6) dJ6_numberOfTrailingZeros_0f7a4_6 (hx) ?_
    refine V_istore_n (Y := mJ6_numberOfTrailingZeros_0f7a4) (pc := 7) dJ6_numberOfTrailingZeros_0f7a4_7 rfl ?_
    refine V_iload_n (Y := mJ6_numberOfTrailingZeros_0f7a4) (pc := 8) dJ6_numberOfTrailingZeros_0f7a4_8 rfl ?_
    refine V_if_gt (tgt := 17) (Y := mJ6_numberOfTrailingZeros_0f7a4) (pc := 9) dJ6_numberOfTrailingZeros_0f7a4_9 (by decide) ⟨by omega, by omega⟩ (fun h_9 => absurd h_9 (by omega)) (fun h_9 => ?_)
    refine V_iload_n (Y := mJ6_numberOfTrailingZeros_0f7a4) (pc := 12) dJ6_numberOfTrailingZeros_0f7a4_12 rfl ?_
    refine V_bipush (Y := mJ6_numberOfTrailingZeros_0f7a4) (pc := 13) dJ6_numberOfTrailingZeros_0f7a4_13 ⟨by decide, by decide⟩ ?_
    refine V_iand (Y := mJ6_numberOfTrailingZeros_0f7a4) (pc := 15) dJ6_numberOfTrailingZeros_0f7a4_15 ((show iI (-1) &&& iI 32 = iI 32 from by decide)) ?_
    refine V_iret (Y := mJ6_numberOfTrailingZeros_0f7a4) (pc := 16) dJ6_numberOfTrailingZeros_0f7a4_16 rfl (Nat.le_of_ble_eq_true rfl) (Nat.le_of_ble_eq_true rfl) ?_
    exact pI_of ⟨Or.inl ⟨h0, rfl⟩, rfl⟩
  · obtain ⟨X, hX⟩ : ∃ X : Nat, X = 2 ^ k - 1 := ⟨_, rfl⟩
    rw [← hX] at hx1
    subst hx1
    have hXv : (k = 0 ∧ X = 0) ∨ (k = 1 ∧ X = 1) ∨ (k = 2 ∧ X = 3) ∨ (k = 3 ∧ X = 7) ∨ (k = 4 ∧ X = 15) ∨ (k = 5 ∧ X = 31) ∨ (k = 6 ∧ X = 63) := by
      subst hX
      rcases (show k = 0 ∨ k = 1 ∨ k = 2 ∨ k = 3 ∨ k = 4 ∨ k = 5 ∨ k = 6 by omega) with rfl | rfl | rfl | rfl | rfl | rfl | rfl <;> simp
    have hX63 : X ≤ 63 := by omega
    have fin : ∀ z : Int, z = (k : Int) → isNtz a z ∧ w = w := fun z hz => ⟨Or.inr ⟨k, hk, hz, hb, hj⟩, rfl⟩
    refine V_iload_n (Y := mJ6_numberOfTrailingZeros_0f7a4) (pc := 0) dJ6_numberOfTrailingZeros_0f7a4_0 rfl ?_
    refine V_iconst (Y := mJ6_numberOfTrailingZeros_0f7a4) (pc := 1) dJ6_numberOfTrailingZeros_0f7a4_1 ?_
    refine V_ixor (Y := mJ6_numberOfTrailingZeros_0f7a4) (pc := 2) dJ6_numberOfTrailingZeros_0f7a4_2 (rfl) ?_
    refine V_iload_n (Y := mJ6_numberOfTrailingZeros_0f7a4) (pc := 3) dJ6_numberOfTrailingZeros_0f7a4_3 rfl ?_
    refine V_iconst (Y := mJ6_numberOfTrailingZeros_0f7a4) (pc := 4) dJ6_numberOfTrailingZeros_0f7a4_4 ?_
    refine V_isub (Y := mJ6_numberOfTrailingZeros_0f7a4) (pc := 5) dJ6_numberOfTrailingZeros_0f7a4_5 ?_
    refine V_iand (Y := mJ6_numberOfTrailingZeros_0f7a4) (pc := 6) dJ6_numberOfTrailingZeros_0f7a4_6 (hx) ?_
    refine V_istore_n (Y := mJ6_numberOfTrailingZeros_0f7a4) (pc := 7) dJ6_numberOfTrailingZeros_0f7a4_7 rfl ?_
    refine V_iload_n (Y := mJ6_numberOfTrailingZeros_0f7a4) (pc := 8) dJ6_numberOfTrailingZeros_0f7a4_8 rfl ?_
    refine V_if_gt (tgt := 17) (Y := mJ6_numberOfTrailingZeros_0f7a4) (pc := 9) dJ6_numberOfTrailingZeros_0f7a4_9 (by decide) ⟨by omega, by omega⟩ (fun h_9 => ?_) (fun h_9 => ?_)
    · refine V_iconst (Y := mJ6_numberOfTrailingZeros_0f7a4) (pc := 17) dJ6_numberOfTrailingZeros_0f7a4_17 ?_
      refine V_istore_n (Y := mJ6_numberOfTrailingZeros_0f7a4) (pc := 18) dJ6_numberOfTrailingZeros_0f7a4_18 rfl ?_
      refine V_iload_n (Y := mJ6_numberOfTrailingZeros_0f7a4) (pc := 19) dJ6_numberOfTrailingZeros_0f7a4_19 rfl ?_
      refine V_ldcw (Y := mJ6_numberOfTrailingZeros_0f7a4) (pc := 20) dJ6_numberOfTrailingZeros_0f7a4_20 ck_J6_264 ?_
      rw [show (65536 : Int32) = iI 65536 from rfl]
      refine V_icmp_le (tgt := 34) (Y := mJ6_numberOfTrailingZeros_0f7a4) (pc := 23) dJ6_numberOfTrailingZeros_0f7a4_23 (by decide) ⟨by omega, by omega⟩ ⟨by omega, by omega⟩ (fun h_23 => ?_) (fun h_23 => absurd h_23 (by omega))
      refine V_iload_n (Y := mJ6_numberOfTrailingZeros_0f7a4) (pc := 34) dJ6_numberOfTrailingZeros_0f7a4_34 rfl ?_
      refine V_sipush (Y := mJ6_numberOfTrailingZeros_0f7a4) (pc := 35) dJ6_numberOfTrailingZeros_0f7a4_35 ⟨by decide, by decide⟩ ?_
      refine V_icmp_le (tgt := 49) (Y := mJ6_numberOfTrailingZeros_0f7a4) (pc := 38) dJ6_numberOfTrailingZeros_0f7a4_38 (by decide) ⟨by omega, by omega⟩ ⟨by omega, by omega⟩ (fun h_38 => ?_) (fun h_38 => absurd h_38 (by omega))
      refine V_iload_n (Y := mJ6_numberOfTrailingZeros_0f7a4) (pc := 49) dJ6_numberOfTrailingZeros_0f7a4_49 rfl ?_
      refine V_bipush (Y := mJ6_numberOfTrailingZeros_0f7a4) (pc := 50) dJ6_numberOfTrailingZeros_0f7a4_50 ⟨by decide, by decide⟩ ?_
      refine V_icmp_le (tgt := 62) (Y := mJ6_numberOfTrailingZeros_0f7a4) (pc := 52) dJ6_numberOfTrailingZeros_0f7a4_52 (by decide) ⟨by omega, by omega⟩ ⟨by omega, by omega⟩ (fun h_52 => ?_) (fun h_52 => ?_)
      · refine V_iload_n (Y := mJ6_numberOfTrailingZeros_0f7a4) (pc := 62) dJ6_numberOfTrailingZeros_0f7a4_62 rfl ?_
        refine V_iconst (Y := mJ6_numberOfTrailingZeros_0f7a4) (pc := 63) dJ6_numberOfTrailingZeros_0f7a4_63 ?_
        refine V_icmp_le (tgt := 74) (Y := mJ6_numberOfTrailingZeros_0f7a4) (pc := 64) dJ6_numberOfTrailingZeros_0f7a4_64 (by decide) ⟨by omega, by omega⟩ ⟨by omega, by omega⟩ (fun h_64 => ?_) (fun h_64 => ?_)
        · refine V_iload_n (Y := mJ6_numberOfTrailingZeros_0f7a4) (pc := 74) dJ6_numberOfTrailingZeros_0f7a4_74 rfl ?_
          refine V_iload_n (Y := mJ6_numberOfTrailingZeros_0f7a4) (pc := 75) dJ6_numberOfTrailingZeros_0f7a4_75 rfl ?_
          refine V_iconst (Y := mJ6_numberOfTrailingZeros_0f7a4) (pc := 76) dJ6_numberOfTrailingZeros_0f7a4_76 ?_
          refine V_iushr (Y := mJ6_numberOfTrailingZeros_0f7a4) (pc := 77) dJ6_numberOfTrailingZeros_0f7a4_77 (iI_ushr (by omega) 1 (by decide)) ?_
          refine V_iadd (Y := mJ6_numberOfTrailingZeros_0f7a4) (pc := 78) dJ6_numberOfTrailingZeros_0f7a4_78 ?_
          refine V_iret (Y := mJ6_numberOfTrailingZeros_0f7a4) (pc := 79) dJ6_numberOfTrailingZeros_0f7a4_79 rfl (Nat.le_of_ble_eq_true rfl) (Nat.le_of_ble_eq_true rfl) ?_
          refine pI_of (fin _ ?_)
          rcases hXv with ⟨rfl, rfl⟩ | ⟨rfl, rfl⟩ | ⟨rfl, rfl⟩ | ⟨rfl, rfl⟩ | ⟨rfl, rfl⟩ | ⟨rfl, rfl⟩ | ⟨rfl, rfl⟩ <;> first | (exfalso; omega) | decide
        · refine V_iinc (Y := mJ6_numberOfTrailingZeros_0f7a4) (pc := 67) dJ6_numberOfTrailingZeros_0f7a4_67 rfl rfl ?_
          refine V_iload_n (Y := mJ6_numberOfTrailingZeros_0f7a4) (pc := 70) dJ6_numberOfTrailingZeros_0f7a4_70 rfl ?_
          refine V_iconst (Y := mJ6_numberOfTrailingZeros_0f7a4) (pc := 71) dJ6_numberOfTrailingZeros_0f7a4_71 ?_
          refine V_iushr (Y := mJ6_numberOfTrailingZeros_0f7a4) (pc := 72) dJ6_numberOfTrailingZeros_0f7a4_72 (iI_ushr (by omega) 2 (by decide)) ?_
          refine V_istore_n (Y := mJ6_numberOfTrailingZeros_0f7a4) (pc := 73) dJ6_numberOfTrailingZeros_0f7a4_73 rfl ?_
          refine V_iload_n (Y := mJ6_numberOfTrailingZeros_0f7a4) (pc := 74) dJ6_numberOfTrailingZeros_0f7a4_74 rfl ?_
          refine V_iload_n (Y := mJ6_numberOfTrailingZeros_0f7a4) (pc := 75) dJ6_numberOfTrailingZeros_0f7a4_75 rfl ?_
          refine V_iconst (Y := mJ6_numberOfTrailingZeros_0f7a4) (pc := 76) dJ6_numberOfTrailingZeros_0f7a4_76 ?_
          refine V_iushr (Y := mJ6_numberOfTrailingZeros_0f7a4) (pc := 77) dJ6_numberOfTrailingZeros_0f7a4_77 (iI_ushr (by omega) 1 (by decide)) ?_
          refine V_iadd (Y := mJ6_numberOfTrailingZeros_0f7a4) (pc := 78) dJ6_numberOfTrailingZeros_0f7a4_78 ?_
          refine V_iret (Y := mJ6_numberOfTrailingZeros_0f7a4) (pc := 79) dJ6_numberOfTrailingZeros_0f7a4_79 rfl (Nat.le_of_ble_eq_true rfl) (Nat.le_of_ble_eq_true rfl) ?_
          refine pI_of (fin _ ?_)
          rcases hXv with ⟨rfl, rfl⟩ | ⟨rfl, rfl⟩ | ⟨rfl, rfl⟩ | ⟨rfl, rfl⟩ | ⟨rfl, rfl⟩ | ⟨rfl, rfl⟩ | ⟨rfl, rfl⟩ <;> first | (exfalso; omega) | decide
      · refine V_iinc (Y := mJ6_numberOfTrailingZeros_0f7a4) (pc := 55) dJ6_numberOfTrailingZeros_0f7a4_55 rfl rfl ?_
        refine V_iload_n (Y := mJ6_numberOfTrailingZeros_0f7a4) (pc := 58) dJ6_numberOfTrailingZeros_0f7a4_58 rfl ?_
        refine V_iconst (Y := mJ6_numberOfTrailingZeros_0f7a4) (pc := 59) dJ6_numberOfTrailingZeros_0f7a4_59 ?_
        refine V_iushr (Y := mJ6_numberOfTrailingZeros_0f7a4) (pc := 60) dJ6_numberOfTrailingZeros_0f7a4_60 (iI_ushr (X := X) (by omega) 4 (by decide)) ?_
        refine V_istore_n (Y := mJ6_numberOfTrailingZeros_0f7a4) (pc := 61) dJ6_numberOfTrailingZeros_0f7a4_61 rfl ?_
        refine V_iload_n (Y := mJ6_numberOfTrailingZeros_0f7a4) (pc := 62) dJ6_numberOfTrailingZeros_0f7a4_62 rfl ?_
        refine V_iconst (Y := mJ6_numberOfTrailingZeros_0f7a4) (pc := 63) dJ6_numberOfTrailingZeros_0f7a4_63 ?_
        refine V_icmp_le (tgt := 74) (Y := mJ6_numberOfTrailingZeros_0f7a4) (pc := 64) dJ6_numberOfTrailingZeros_0f7a4_64 (by decide) ⟨by omega, by omega⟩ ⟨by omega, by omega⟩ (fun h_64 => ?_) (fun h_64 => ?_)
        · refine V_iload_n (Y := mJ6_numberOfTrailingZeros_0f7a4) (pc := 74) dJ6_numberOfTrailingZeros_0f7a4_74 rfl ?_
          refine V_iload_n (Y := mJ6_numberOfTrailingZeros_0f7a4) (pc := 75) dJ6_numberOfTrailingZeros_0f7a4_75 rfl ?_
          refine V_iconst (Y := mJ6_numberOfTrailingZeros_0f7a4) (pc := 76) dJ6_numberOfTrailingZeros_0f7a4_76 ?_
          refine V_iushr (Y := mJ6_numberOfTrailingZeros_0f7a4) (pc := 77) dJ6_numberOfTrailingZeros_0f7a4_77 (iI_ushr (by omega) 1 (by decide)) ?_
          refine V_iadd (Y := mJ6_numberOfTrailingZeros_0f7a4) (pc := 78) dJ6_numberOfTrailingZeros_0f7a4_78 ?_
          refine V_iret (Y := mJ6_numberOfTrailingZeros_0f7a4) (pc := 79) dJ6_numberOfTrailingZeros_0f7a4_79 rfl (Nat.le_of_ble_eq_true rfl) (Nat.le_of_ble_eq_true rfl) ?_
          refine pI_of (fin _ ?_)
          rcases hXv with ⟨rfl, rfl⟩ | ⟨rfl, rfl⟩ | ⟨rfl, rfl⟩ | ⟨rfl, rfl⟩ | ⟨rfl, rfl⟩ | ⟨rfl, rfl⟩ | ⟨rfl, rfl⟩ <;> first | (exfalso; omega) | decide
        · refine V_iinc (Y := mJ6_numberOfTrailingZeros_0f7a4) (pc := 67) dJ6_numberOfTrailingZeros_0f7a4_67 rfl rfl ?_
          refine V_iload_n (Y := mJ6_numberOfTrailingZeros_0f7a4) (pc := 70) dJ6_numberOfTrailingZeros_0f7a4_70 rfl ?_
          refine V_iconst (Y := mJ6_numberOfTrailingZeros_0f7a4) (pc := 71) dJ6_numberOfTrailingZeros_0f7a4_71 ?_
          refine V_iushr (Y := mJ6_numberOfTrailingZeros_0f7a4) (pc := 72) dJ6_numberOfTrailingZeros_0f7a4_72 (iI_ushr (by omega) 2 (by decide)) ?_
          refine V_istore_n (Y := mJ6_numberOfTrailingZeros_0f7a4) (pc := 73) dJ6_numberOfTrailingZeros_0f7a4_73 rfl ?_
          refine V_iload_n (Y := mJ6_numberOfTrailingZeros_0f7a4) (pc := 74) dJ6_numberOfTrailingZeros_0f7a4_74 rfl ?_
          refine V_iload_n (Y := mJ6_numberOfTrailingZeros_0f7a4) (pc := 75) dJ6_numberOfTrailingZeros_0f7a4_75 rfl ?_
          refine V_iconst (Y := mJ6_numberOfTrailingZeros_0f7a4) (pc := 76) dJ6_numberOfTrailingZeros_0f7a4_76 ?_
          refine V_iushr (Y := mJ6_numberOfTrailingZeros_0f7a4) (pc := 77) dJ6_numberOfTrailingZeros_0f7a4_77 (iI_ushr (by omega) 1 (by decide)) ?_
          refine V_iadd (Y := mJ6_numberOfTrailingZeros_0f7a4) (pc := 78) dJ6_numberOfTrailingZeros_0f7a4_78 ?_
          refine V_iret (Y := mJ6_numberOfTrailingZeros_0f7a4) (pc := 79) dJ6_numberOfTrailingZeros_0f7a4_79 rfl (Nat.le_of_ble_eq_true rfl) (Nat.le_of_ble_eq_true rfl) ?_
          refine pI_of (fin _ ?_)
          rcases hXv with ⟨rfl, rfl⟩ | ⟨rfl, rfl⟩ | ⟨rfl, rfl⟩ | ⟨rfl, rfl⟩ | ⟨rfl, rfl⟩ | ⟨rfl, rfl⟩ | ⟨rfl, rfl⟩ <;> first | (exfalso; omega) | decide
    · refine V_iload_n (Y := mJ6_numberOfTrailingZeros_0f7a4) (pc := 12) dJ6_numberOfTrailingZeros_0f7a4_12 rfl ?_
      refine V_bipush (Y := mJ6_numberOfTrailingZeros_0f7a4) (pc := 13) dJ6_numberOfTrailingZeros_0f7a4_13 ⟨by decide, by decide⟩ ?_
      refine V_iand (Y := mJ6_numberOfTrailingZeros_0f7a4) (pc := 15) dJ6_numberOfTrailingZeros_0f7a4_15 ((show iI (X : Int) &&& iI 32 = iI 0 from by rw [show X = 0 by omega]; decide)) ?_
      refine V_iret (Y := mJ6_numberOfTrailingZeros_0f7a4) (pc := 16) dJ6_numberOfTrailingZeros_0f7a4_16 rfl (Nat.le_of_ble_eq_true rfl) (Nat.le_of_ble_eq_true rfl) ?_
      exact pI_of (fin _ (by omega))
theorem V_sI {Y : vMeth} {R : Room} {Q : vPost} {pc : Nat} {lv : vLs} {st : List Value} {n : Nat} {w : vWd} {kc ks : Nat} {Y2 : vMeth} {As rest : List Value} {N idx d : Nat} {P : Int → vWd → Prop} (hd : decode Y.2.1 pc = .ok (.invokestatic idx, 3)) (hM : okM Y2 N) (hV : Cond.static Y2.1 ∈ vU) (hL : okL Y.1.cls idx Y2) (hC : Ctr Y2 (rm d) As n w (pI P n)) (hn : As.length = N) (hst : As.reverse ++ rest = st) (hR : rmOK R Y2 (rm d) kc ks rest = true)
    (kk : ∀ (z : Int) (w' : vWd), P z w' → V Y R Q (pc + 3) lv (vI z :: rest) n w' kc ks) : V Y R Q pc lv st n w kc ks :=
  V_callS hd hM hV hL hC hn hst hR (fun r n' w' h => by obtain ⟨z, rfl, rfl, h⟩ := h; exact kk z w' h)
def ntzF (a : Nat) : Int := if a.testBit 0 = true then 0 else if a.testBit 1 = true then 1 else if a.testBit 2 = true then 2 else if a.testBit 3 = true then 3 else if a.testBit 4 = true then 4 else if a.testBit 5 = true then 5 else if a.testBit 6 = true then 6 else 32
theorem isNtz_eq {a : Nat} {z : Int} (h : isNtz a z) : z = ntzF a := by
  rcases h with ⟨rfl, rfl⟩ | ⟨k, hk, hz, hb, hj⟩
  · simp [ntzF]
  · have := hj 0; have := hj 1; have := hj 2; have := hj 3; have := hj 4; have := hj 5
    rcases (show k = 0 ∨ k = 1 ∨ k = 2 ∨ k = 3 ∨ k = 4 ∨ k = 5 ∨ k = 6 by omega) with rfl | rfl | rfl | rfl | rfl | rfl | rfl <;> simp_all [ntzF]
theorem ntzF_rng (a : Nat) : 0 ≤ ntzF a ∧ ntzF a ≤ 32 := by
  unfold ntzF
  repeat' split
  all_goals omega
def nrPick (h : Nat) (s best bd : Int) : Int × Int := if (drB s 2 7 &&& h) ≠ 0 ∧ ntzF (drB s 2 7 &&& h) < bd then (s, ntzF (drB s 2 7 &&& h)) else (best, bd)
def fNear (sp : Int → Int → Int) (n h : Nat) : Nat → Nat → Int → Int → bF → Int × bF
  | 0, _, best, _, F => (best, F)
  | m + 1, k, best, bd, F =>
    if k < F.2.2.2.length then
      if best ≠ -1 ∧ rAt F.1 best < rAt F.1 (rAt F.2.2.2 (k : Int)) then (best, F)
      else fNear sp n h m (k + 1) (nrPick h (rAt F.2.2.2 (k : Int)) best bd).1 (nrPick h (rAt F.2.2.2 (k : Int)) best bd).2 (if (nrPick h (rAt F.2.2.2 (k : Int)) best bd).1 = -1 then fGrowTo sp F (rAt F.2.2.2 (k : Int)) n else F)
    else (best, F)
set_option maxRecDepth 100000 in
theorem lp_nearestOpen {nn : Nat} {w : vWd} {q hh : Nat} {lr n tf tt tb s0 : Int} {st : List Int} (hn : 0 ≤ n ∧ n ≤ 7) (ht : tbOK n st) (htd : tdOK n tf tt tb) (hH : hh < 128) {G : Int × bF} : ∀ (m : Nat) (i : Int) (w' : vWd) (F : bF) (best bd : Int), 0 ≤ i → (p3 n.toNat - i).toNat < m → i ≤ F.2.2.2.length → (best = -1 ∨ best ∈ F.2.2.2) → (0 ≤ bd ∧ bd ≤ 32) → frK q w w' → FOK (p3 n.toNat) F → WalkAt w' q lr n (p3 n.toNat) tf tt tb st F → fNear (stpF st tf tt tb) n.toNat hh m i.toNat best bd F = G →
    V mX3_nearestOpen (rm 4) (pI (fun z w' => z = G.1 ∧ WalkAt w' q lr n (p3 n.toNat) tf tt tb st G.2 ∧ frK q w w') nn) 16 [some (.ref q), some (vI s0), some (vI (hh : Int)), some (vI best), some (vI bd), some (vI i), none, none, none] [] nn w' 0 0 := by
  intro m
  induction m with
  | zero => intro i w' F best bd h1 h2; omega
  | succ m ih =>
    intro i w' F best bd hi hm2 hi2 hbest hbd hfr hF h hG
    have ho := h.obj
    have hp := p3_le n.toNat (by omega)
    have hp0 := p3_pos n.toNat
    have hl := hF.len
    have hbR : inR best := by
      rcases hbest with q1 | q1
      · subst q1; exact ⟨by decide, by decide⟩
      · have := hF.2.2.2.2.2.2.1 _ q1; exact ⟨by omega, by omega⟩
    have hfb := hF.2.2.2.2.1 best
    refine V_iload (Y := mX3_nearestOpen) (pc := 16) dX3_nearestOpen_16 rfl ?_
    refine V_aload_n (Y := mX3_nearestOpen) (pc := 18) dX3_nearestOpen_18 rfl ?_
    apply V_get (Y := mX3_nearestOpen) (pc := 19) dX3_nearestOpen_19 fl_X3_29
    · assumption
    · rfl
    apply V_vR (Y := mX3_nearestOpen) (pc := 22) dX3_nearestOpen_22 ok_X2_size ov_X2_size ln_X3_91 (c_Row_size h.r4)
    · exact h.r4.obj
    · rfl
    · rfl
    · rfl
    · rfl
    · rfl
    refine V_icmp_ge (tgt := 129) (Y := mX3_nearestOpen) (pc := 25) dX3_nearestOpen_25 (by decide) ⟨by omega, by omega⟩ ⟨by omega, by omega⟩ (fun h_25 => ?_) (fun h_25 => ?_)
    · refine V_iload_n (Y := mX3_nearestOpen) (pc := 129) dX3_nearestOpen_129 rfl ?_
      refine V_iret (Y := mX3_nearestOpen) (pc := 130) dX3_nearestOpen_130 rfl (Nat.le_of_ble_eq_true rfl) (Nat.le_of_ble_eq_true rfl) ?_
      first
        | (rw [if_pos ⟨h_50, h_70⟩] at hG
           subst hG
           exact pI_of ⟨rfl, h, hfr⟩)
        | (rw [fNear, if_neg (by omega)] at hG
           subst hG
           exact pI_of ⟨rfl, h, hfr⟩)
    · refine V_iload (Y := mX3_nearestOpen) (pc := 28) dX3_nearestOpen_28 rfl ?_
      refine V_aload_n (Y := mX3_nearestOpen) (pc := 30) dX3_nearestOpen_30 rfl ?_
      apply V_get (Y := mX3_nearestOpen) (pc := 31) dX3_nearestOpen_31 fl_X3_40
      · assumption
      · rfl
      refine V_icmp_ge (tgt := 129) (Y := mX3_nearestOpen) (pc := 34) dX3_nearestOpen_34 (by decide) ⟨by omega, by omega⟩ ⟨by omega, by omega⟩ (fun h_34 => absurd h_34 (by omega)) (fun h_34 => ?_)
      have hmem := rAt_mem (l := F.2.2.2) hi (by omega)
      have hr := hF.2.2.2.2.2.2.1 _ hmem
      have hfs := hF.2.2.2.2.1 (rAt F.2.2.2 i)
      have hx := fGrowTo_ok hF (sp := stpF st tf tt tb) (fun d h1 h2 => stpF_ok hn.1 ht htd _ d ⟨hr.1, hr.2.1⟩ ⟨h1, h2⟩) hmem n.toNat (by omega)
      have hxl := fGrowTo_len (stpF st tf tt tb) F (rAt F.2.2.2 i) n.toNat
      have q1 := and_lt128 (y := hh) (drB_lt (rAt F.2.2.2 i) 2 7)
      rw [fNear, if_pos (by omega), show ((i.toNat : Nat) : Int) = i by omega, show i.toNat + 1 = (i + 1).toNat by omega] at hG
      generalize hS : rAt F.2.2.2 i = s at *
      refine V_aload_n (Y := mX3_nearestOpen) (pc := 37) dX3_nearestOpen_37 rfl ?_
      apply V_get (Y := mX3_nearestOpen) (pc := 38) dX3_nearestOpen_38 fl_X3_29
      · assumption
      · rfl
      refine V_iload (Y := mX3_nearestOpen) (pc := 41) dX3_nearestOpen_41 rfl ?_
      apply V_vR (Y := mX3_nearestOpen) (pc := 43) dX3_nearestOpen_43 ok_X2_at ov_X2_at ln_X3_74 (c_Row_at (i := i) h.r4 ⟨by omega, by omega⟩)
      · exact h.r4.obj
      · rfl
      · rfl
      · rfl
      · rfl
      · rfl
      rw [hS]
      refine V_istore (Y := mX3_nearestOpen) (pc := 46) dX3_nearestOpen_46 rfl ?_
      refine V_iload_n (Y := mX3_nearestOpen) (pc := 48) dX3_nearestOpen_48 rfl ?_
      refine V_iconst (Y := mX3_nearestOpen) (pc := 49) dX3_nearestOpen_49 ?_
      refine V_icmp_eq (tgt := 76) (Y := mX3_nearestOpen) (pc := 50) dX3_nearestOpen_50 (by decide) ⟨by omega, by omega⟩ ⟨by omega, by omega⟩ (fun h_50 => ?_) (fun h_50 => ?_)
      · refine V_iload (Y := mX3_nearestOpen) (pc := 76) dX3_nearestOpen_76 rfl ?_
        refine V_iconst (Y := mX3_nearestOpen) (pc := 78) dX3_nearestOpen_78 ?_
        apply V_sR (Y := mX3_nearestOpen) (pc := 79) dX3_nearestOpen_79 ok_X5_drawersOutBy os_X5_drawersOutBy ln_X3_105 (c_drawersOut (s := s) (v := 2) hr.1 ⟨by omega, by omega⟩ ⟨by omega, by omega⟩)
        · rfl
        · rfl
        · rfl
        refine V_iload_n (Y := mX3_nearestOpen) (pc := 82) dX3_nearestOpen_82 rfl ?_
        refine V_iand (Y := mX3_nearestOpen) (pc := 83) dX3_nearestOpen_83 (iI_and _ _) ?_
        refine V_istore (Y := mX3_nearestOpen) (pc := 84) dX3_nearestOpen_84 rfl ?_
        refine V_iload (Y := mX3_nearestOpen) (pc := 86) dX3_nearestOpen_86 rfl ?_
        apply V_sI (Y := mX3_nearestOpen) (pc := 88) dX3_nearestOpen_88 ok_J6_numberOfTrailingZeros_0f7a4 os_J6_numberOfTrailingZeros_0f7a4 ln_X3_108 (c_ntz q1)
        · rfl
        · rfl
        · rfl
        rintro z_88 _ ⟨hz, rfl⟩
        have ez := isNtz_eq hz
        have hzr := ntzF_rng (drB s 2 7 &&& hh)
        rw [← ez] at hzr
        refine V_istore (Y := mX3_nearestOpen) (pc := 91) dX3_nearestOpen_91 rfl ?_
        refine V_iload (Y := mX3_nearestOpen) (pc := 93) dX3_nearestOpen_93 rfl ?_
        refine V_if_eq (tgt := 112) (Y := mX3_nearestOpen) (pc := 95) dX3_nearestOpen_95 (by decide) ⟨by omega, by omega⟩ (fun h_95 => ?_) (fun h_95 => ?_)
        · refine V_iload_n (Y := mX3_nearestOpen) (pc := 112) dX3_nearestOpen_112 rfl ?_
          refine V_iconst (Y := mX3_nearestOpen) (pc := 113) dX3_nearestOpen_113 ?_
          refine V_icmp_ne (tgt := 123) (Y := mX3_nearestOpen) (pc := 114) dX3_nearestOpen_114 (by decide) ⟨by omega, by omega⟩ ⟨by omega, by omega⟩ (fun h_114 => ?_) (fun h_114 => ?_)
          · refine V_iinc (Y := mX3_nearestOpen) (pc := 123) dX3_nearestOpen_123 rfl rfl ?_
            refine V_goto (tgt := 16) (Y := mX3_nearestOpen) (pc := 126) dX3_nearestOpen_126 (by decide) ?_
            refine V_drop 6 (V_drop 7 (V_drop 8 ?_))
            rw [if_neg (fun z => by first | exact z.1 h_50 | (have := z.2; omega))] at hG
            first
              | (have e : nrPick hh s best bd = (s, z_88) := by rw [nrPick, ← ez]; exact if_pos ⟨by omega, by omega⟩
                 rw [e] at hG
                 have hsn : s ≠ -1 := by omega
                 rw [if_neg hsn] at hG
                 exact ih (i + 1) _ F s z_88 (by omega) (by omega) (by omega) (Or.inr hmem) ⟨by omega, by omega⟩ hfr hF h hG)
              | (have e : nrPick hh s best bd = (best, bd) := by rw [nrPick, ← ez]; exact if_neg (fun z => by have := z.1; have := z.2; omega)
                 rw [e] at hG
                 rw [if_pos h_114] at hG
                 exact ih (i + 1) w_120 _ best bd (by omega) (by omega) (by omega) (Or.inl h_114) hbd (hfr.trans k1) hx.1 g1 hG)
              | (have e : nrPick hh s best bd = (best, bd) := by rw [nrPick, ← ez]; exact if_neg (fun z => by have := z.1; have := z.2; omega)
                 rw [e] at hG
                 rw [if_neg h_114] at hG
                 exact ih (i + 1) _ F best bd (by omega) (by omega) (by omega) hbest hbd hfr hF h hG)
              | (exfalso; omega)
          · refine V_aload_n (Y := mX3_nearestOpen) (pc := 117) dX3_nearestOpen_117 rfl ?_
            refine V_iload (Y := mX3_nearestOpen) (pc := 118) dX3_nearestOpen_118 rfl ?_
            apply V_vV (Y := mX3_nearestOpen) (pc := 120) dX3_nearestOpen_120 ok_X3_grow ov_X3_grow ln_X3_95 (c_grow (s := s) h hn ht htd hF ⟨hr.1, hr.2.1⟩ hmem)
            · assumption
            · rfl
            · rfl
            · rfl
            · rfl
            · rfl
            rintro w_120 ⟨g1, k1⟩
            refine V_iinc (Y := mX3_nearestOpen) (pc := 123) dX3_nearestOpen_123 rfl rfl ?_
            refine V_goto (tgt := 16) (Y := mX3_nearestOpen) (pc := 126) dX3_nearestOpen_126 (by decide) ?_
            refine V_drop 6 (V_drop 7 (V_drop 8 ?_))
            rw [if_neg (fun z => by first | exact z.1 h_50 | (have := z.2; omega))] at hG
            first
              | (have e : nrPick hh s best bd = (s, z_88) := by rw [nrPick, ← ez]; exact if_pos ⟨by omega, by omega⟩
                 rw [e] at hG
                 have hsn : s ≠ -1 := by omega
                 rw [if_neg hsn] at hG
                 exact ih (i + 1) _ F s z_88 (by omega) (by omega) (by omega) (Or.inr hmem) ⟨by omega, by omega⟩ hfr hF h hG)
              | (have e : nrPick hh s best bd = (best, bd) := by rw [nrPick, ← ez]; exact if_neg (fun z => by have := z.1; have := z.2; omega)
                 rw [e] at hG
                 rw [if_pos h_114] at hG
                 exact ih (i + 1) w_120 _ best bd (by omega) (by omega) (by omega) (Or.inl h_114) hbd (hfr.trans k1) hx.1 g1 hG)
              | (have e : nrPick hh s best bd = (best, bd) := by rw [nrPick, ← ez]; exact if_neg (fun z => by have := z.1; have := z.2; omega)
                 rw [e] at hG
                 rw [if_neg h_114] at hG
                 exact ih (i + 1) _ F best bd (by omega) (by omega) (by omega) hbest hbd hfr hF h hG)
              | (exfalso; omega)
        · refine V_iload (Y := mX3_nearestOpen) (pc := 98) dX3_nearestOpen_98 rfl ?_
          refine V_iload (Y := mX3_nearestOpen) (pc := 100) dX3_nearestOpen_100 rfl ?_
          refine V_icmp_ge (tgt := 112) (Y := mX3_nearestOpen) (pc := 102) dX3_nearestOpen_102 (by decide) ⟨by omega, by omega⟩ ⟨by omega, by omega⟩ (fun h_102 => ?_) (fun h_102 => ?_)
          · refine V_iload_n (Y := mX3_nearestOpen) (pc := 112) dX3_nearestOpen_112 rfl ?_
            refine V_iconst (Y := mX3_nearestOpen) (pc := 113) dX3_nearestOpen_113 ?_
            refine V_icmp_ne (tgt := 123) (Y := mX3_nearestOpen) (pc := 114) dX3_nearestOpen_114 (by decide) ⟨by omega, by omega⟩ ⟨by omega, by omega⟩ (fun h_114 => ?_) (fun h_114 => ?_)
            · refine V_iinc (Y := mX3_nearestOpen) (pc := 123) dX3_nearestOpen_123 rfl rfl ?_
              refine V_goto (tgt := 16) (Y := mX3_nearestOpen) (pc := 126) dX3_nearestOpen_126 (by decide) ?_
              refine V_drop 6 (V_drop 7 (V_drop 8 ?_))
              rw [if_neg (fun z => by first | exact z.1 h_50 | (have := z.2; omega))] at hG
              first
                | (have e : nrPick hh s best bd = (s, z_88) := by rw [nrPick, ← ez]; exact if_pos ⟨by omega, by omega⟩
                   rw [e] at hG
                   have hsn : s ≠ -1 := by omega
                   rw [if_neg hsn] at hG
                   exact ih (i + 1) _ F s z_88 (by omega) (by omega) (by omega) (Or.inr hmem) ⟨by omega, by omega⟩ hfr hF h hG)
                | (have e : nrPick hh s best bd = (best, bd) := by rw [nrPick, ← ez]; exact if_neg (fun z => by have := z.1; have := z.2; omega)
                   rw [e] at hG
                   rw [if_pos h_114] at hG
                   exact ih (i + 1) w_120 _ best bd (by omega) (by omega) (by omega) (Or.inl h_114) hbd (hfr.trans k1) hx.1 g1 hG)
                | (have e : nrPick hh s best bd = (best, bd) := by rw [nrPick, ← ez]; exact if_neg (fun z => by have := z.1; have := z.2; omega)
                   rw [e] at hG
                   rw [if_neg h_114] at hG
                   exact ih (i + 1) _ F best bd (by omega) (by omega) (by omega) hbest hbd hfr hF h hG)
                | (exfalso; omega)
            · refine V_aload_n (Y := mX3_nearestOpen) (pc := 117) dX3_nearestOpen_117 rfl ?_
              refine V_iload (Y := mX3_nearestOpen) (pc := 118) dX3_nearestOpen_118 rfl ?_
              apply V_vV (Y := mX3_nearestOpen) (pc := 120) dX3_nearestOpen_120 ok_X3_grow ov_X3_grow ln_X3_95 (c_grow (s := s) h hn ht htd hF ⟨hr.1, hr.2.1⟩ hmem)
              · assumption
              · rfl
              · rfl
              · rfl
              · rfl
              · rfl
              rintro w_120 ⟨g1, k1⟩
              refine V_iinc (Y := mX3_nearestOpen) (pc := 123) dX3_nearestOpen_123 rfl rfl ?_
              refine V_goto (tgt := 16) (Y := mX3_nearestOpen) (pc := 126) dX3_nearestOpen_126 (by decide) ?_
              refine V_drop 6 (V_drop 7 (V_drop 8 ?_))
              rw [if_neg (fun z => by first | exact z.1 h_50 | (have := z.2; omega))] at hG
              first
                | (have e : nrPick hh s best bd = (s, z_88) := by rw [nrPick, ← ez]; exact if_pos ⟨by omega, by omega⟩
                   rw [e] at hG
                   have hsn : s ≠ -1 := by omega
                   rw [if_neg hsn] at hG
                   exact ih (i + 1) _ F s z_88 (by omega) (by omega) (by omega) (Or.inr hmem) ⟨by omega, by omega⟩ hfr hF h hG)
                | (have e : nrPick hh s best bd = (best, bd) := by rw [nrPick, ← ez]; exact if_neg (fun z => by have := z.1; have := z.2; omega)
                   rw [e] at hG
                   rw [if_pos h_114] at hG
                   exact ih (i + 1) w_120 _ best bd (by omega) (by omega) (by omega) (Or.inl h_114) hbd (hfr.trans k1) hx.1 g1 hG)
                | (have e : nrPick hh s best bd = (best, bd) := by rw [nrPick, ← ez]; exact if_neg (fun z => by have := z.1; have := z.2; omega)
                   rw [e] at hG
                   rw [if_neg h_114] at hG
                   exact ih (i + 1) _ F best bd (by omega) (by omega) (by omega) hbest hbd hfr hF h hG)
                | (exfalso; omega)
          · refine V_iload (Y := mX3_nearestOpen) (pc := 105) dX3_nearestOpen_105 rfl ?_
            refine V_istore_n (Y := mX3_nearestOpen) (pc := 107) dX3_nearestOpen_107 rfl ?_
            refine V_iload (Y := mX3_nearestOpen) (pc := 108) dX3_nearestOpen_108 rfl ?_
            refine V_istore (Y := mX3_nearestOpen) (pc := 110) dX3_nearestOpen_110 rfl ?_
            refine V_iload_n (Y := mX3_nearestOpen) (pc := 112) dX3_nearestOpen_112 rfl ?_
            refine V_iconst (Y := mX3_nearestOpen) (pc := 113) dX3_nearestOpen_113 ?_
            refine V_icmp_ne (tgt := 123) (Y := mX3_nearestOpen) (pc := 114) dX3_nearestOpen_114 (by decide) ⟨by omega, by omega⟩ ⟨by omega, by omega⟩ (fun h_114 => ?_) (fun h_114 => ?_)
            · refine V_iinc (Y := mX3_nearestOpen) (pc := 123) dX3_nearestOpen_123 rfl rfl ?_
              refine V_goto (tgt := 16) (Y := mX3_nearestOpen) (pc := 126) dX3_nearestOpen_126 (by decide) ?_
              refine V_drop 6 (V_drop 7 (V_drop 8 ?_))
              rw [if_neg (fun z => by first | exact z.1 h_50 | (have := z.2; omega))] at hG
              first
                | (have e : nrPick hh s best bd = (s, z_88) := by rw [nrPick, ← ez]; exact if_pos ⟨by omega, by omega⟩
                   rw [e] at hG
                   have hsn : s ≠ -1 := by omega
                   rw [if_neg hsn] at hG
                   exact ih (i + 1) _ F s z_88 (by omega) (by omega) (by omega) (Or.inr hmem) ⟨by omega, by omega⟩ hfr hF h hG)
                | (have e : nrPick hh s best bd = (best, bd) := by rw [nrPick, ← ez]; exact if_neg (fun z => by have := z.1; have := z.2; omega)
                   rw [e] at hG
                   rw [if_pos h_114] at hG
                   exact ih (i + 1) w_120 _ best bd (by omega) (by omega) (by omega) (Or.inl h_114) hbd (hfr.trans k1) hx.1 g1 hG)
                | (have e : nrPick hh s best bd = (best, bd) := by rw [nrPick, ← ez]; exact if_neg (fun z => by have := z.1; have := z.2; omega)
                   rw [e] at hG
                   rw [if_neg h_114] at hG
                   exact ih (i + 1) _ F best bd (by omega) (by omega) (by omega) hbest hbd hfr hF h hG)
                | (exfalso; omega)
            · refine V_aload_n (Y := mX3_nearestOpen) (pc := 117) dX3_nearestOpen_117 rfl ?_
              refine V_iload (Y := mX3_nearestOpen) (pc := 118) dX3_nearestOpen_118 rfl ?_
              apply V_vV (Y := mX3_nearestOpen) (pc := 120) dX3_nearestOpen_120 ok_X3_grow ov_X3_grow ln_X3_95 (c_grow (s := s) h hn ht htd hF ⟨hr.1, hr.2.1⟩ hmem)
              · assumption
              · rfl
              · rfl
              · rfl
              · rfl
              · rfl
              rintro w_120 ⟨g1, k1⟩
              refine V_iinc (Y := mX3_nearestOpen) (pc := 123) dX3_nearestOpen_123 rfl rfl ?_
              refine V_goto (tgt := 16) (Y := mX3_nearestOpen) (pc := 126) dX3_nearestOpen_126 (by decide) ?_
              refine V_drop 6 (V_drop 7 (V_drop 8 ?_))
              rw [if_neg (fun z => by first | exact z.1 h_50 | (have := z.2; omega))] at hG
              first
                | (have e : nrPick hh s best bd = (s, z_88) := by rw [nrPick, ← ez]; exact if_pos ⟨by omega, by omega⟩
                   rw [e] at hG
                   have hsn : s ≠ -1 := by omega
                   rw [if_neg hsn] at hG
                   exact ih (i + 1) _ F s z_88 (by omega) (by omega) (by omega) (Or.inr hmem) ⟨by omega, by omega⟩ hfr hF h hG)
                | (have e : nrPick hh s best bd = (best, bd) := by rw [nrPick, ← ez]; exact if_neg (fun z => by have := z.1; have := z.2; omega)
                   rw [e] at hG
                   rw [if_pos h_114] at hG
                   exact ih (i + 1) w_120 _ best bd (by omega) (by omega) (by omega) (Or.inl h_114) hbd (hfr.trans k1) hx.1 g1 hG)
                | (have e : nrPick hh s best bd = (best, bd) := by rw [nrPick, ← ez]; exact if_neg (fun z => by have := z.1; have := z.2; omega)
                   rw [e] at hG
                   rw [if_neg h_114] at hG
                   exact ih (i + 1) _ F best bd (by omega) (by omega) (by omega) hbest hbd hfr hF h hG)
                | (exfalso; omega)
      · refine V_aload_n (Y := mX3_nearestOpen) (pc := 53) dX3_nearestOpen_53 rfl ?_
        apply V_get (Y := mX3_nearestOpen) (pc := 54) dX3_nearestOpen_54 fl_X3_20
        · assumption
        · rfl
        refine V_iload (Y := mX3_nearestOpen) (pc := 57) dX3_nearestOpen_57 rfl ?_
        apply V_vR (Y := mX3_nearestOpen) (pc := 59) dX3_nearestOpen_59 ok_X2_at ov_X2_at ln_X3_74 (c_Row_at (i := s) h.r1 ⟨by omega, by omega⟩)
        · exact h.r1.obj
        · rfl
        · rfl
        · rfl
        · rfl
        · rfl
        refine V_aload_n (Y := mX3_nearestOpen) (pc := 62) dX3_nearestOpen_62 rfl ?_
        apply V_get (Y := mX3_nearestOpen) (pc := 63) dX3_nearestOpen_63 fl_X3_20
        · assumption
        · rfl
        refine V_iload_n (Y := mX3_nearestOpen) (pc := 66) dX3_nearestOpen_66 rfl ?_
        apply V_vR (Y := mX3_nearestOpen) (pc := 67) dX3_nearestOpen_67 ok_X2_at ov_X2_at ln_X3_74 (c_Row_at (i := best) h.r1 hbR)
        · exact h.r1.obj
        · rfl
        · rfl
        · rfl
        · rfl
        · rfl
        refine V_icmp_le (tgt := 76) (Y := mX3_nearestOpen) (pc := 70) dX3_nearestOpen_70 (by decide) ⟨by omega, by omega⟩ ⟨by omega, by omega⟩ (fun h_70 => ?_) (fun h_70 => ?_)
        · refine V_iload (Y := mX3_nearestOpen) (pc := 76) dX3_nearestOpen_76 rfl ?_
          refine V_iconst (Y := mX3_nearestOpen) (pc := 78) dX3_nearestOpen_78 ?_
          apply V_sR (Y := mX3_nearestOpen) (pc := 79) dX3_nearestOpen_79 ok_X5_drawersOutBy os_X5_drawersOutBy ln_X3_105 (c_drawersOut (s := s) (v := 2) hr.1 ⟨by omega, by omega⟩ ⟨by omega, by omega⟩)
          · rfl
          · rfl
          · rfl
          refine V_iload_n (Y := mX3_nearestOpen) (pc := 82) dX3_nearestOpen_82 rfl ?_
          refine V_iand (Y := mX3_nearestOpen) (pc := 83) dX3_nearestOpen_83 (iI_and _ _) ?_
          refine V_istore (Y := mX3_nearestOpen) (pc := 84) dX3_nearestOpen_84 rfl ?_
          refine V_iload (Y := mX3_nearestOpen) (pc := 86) dX3_nearestOpen_86 rfl ?_
          apply V_sI (Y := mX3_nearestOpen) (pc := 88) dX3_nearestOpen_88 ok_J6_numberOfTrailingZeros_0f7a4 os_J6_numberOfTrailingZeros_0f7a4 ln_X3_108 (c_ntz q1)
          · rfl
          · rfl
          · rfl
          rintro z_88 _ ⟨hz, rfl⟩
          have ez := isNtz_eq hz
          have hzr := ntzF_rng (drB s 2 7 &&& hh)
          rw [← ez] at hzr
          refine V_istore (Y := mX3_nearestOpen) (pc := 91) dX3_nearestOpen_91 rfl ?_
          refine V_iload (Y := mX3_nearestOpen) (pc := 93) dX3_nearestOpen_93 rfl ?_
          refine V_if_eq (tgt := 112) (Y := mX3_nearestOpen) (pc := 95) dX3_nearestOpen_95 (by decide) ⟨by omega, by omega⟩ (fun h_95 => ?_) (fun h_95 => ?_)
          · refine V_iload_n (Y := mX3_nearestOpen) (pc := 112) dX3_nearestOpen_112 rfl ?_
            refine V_iconst (Y := mX3_nearestOpen) (pc := 113) dX3_nearestOpen_113 ?_
            refine V_icmp_ne (tgt := 123) (Y := mX3_nearestOpen) (pc := 114) dX3_nearestOpen_114 (by decide) ⟨by omega, by omega⟩ ⟨by omega, by omega⟩ (fun h_114 => ?_) (fun h_114 => ?_)
            · refine V_iinc (Y := mX3_nearestOpen) (pc := 123) dX3_nearestOpen_123 rfl rfl ?_
              refine V_goto (tgt := 16) (Y := mX3_nearestOpen) (pc := 126) dX3_nearestOpen_126 (by decide) ?_
              refine V_drop 6 (V_drop 7 (V_drop 8 ?_))
              rw [if_neg (fun z => by first | exact z.1 h_50 | (have := z.2; omega))] at hG
              first
                | (have e : nrPick hh s best bd = (s, z_88) := by rw [nrPick, ← ez]; exact if_pos ⟨by omega, by omega⟩
                   rw [e] at hG
                   have hsn : s ≠ -1 := by omega
                   rw [if_neg hsn] at hG
                   exact ih (i + 1) _ F s z_88 (by omega) (by omega) (by omega) (Or.inr hmem) ⟨by omega, by omega⟩ hfr hF h hG)
                | (have e : nrPick hh s best bd = (best, bd) := by rw [nrPick, ← ez]; exact if_neg (fun z => by have := z.1; have := z.2; omega)
                   rw [e] at hG
                   rw [if_pos h_114] at hG
                   exact ih (i + 1) w_120 _ best bd (by omega) (by omega) (by omega) (Or.inl h_114) hbd (hfr.trans k1) hx.1 g1 hG)
                | (have e : nrPick hh s best bd = (best, bd) := by rw [nrPick, ← ez]; exact if_neg (fun z => by have := z.1; have := z.2; omega)
                   rw [e] at hG
                   rw [if_neg h_114] at hG
                   exact ih (i + 1) _ F best bd (by omega) (by omega) (by omega) hbest hbd hfr hF h hG)
                | (exfalso; omega)
            · refine V_aload_n (Y := mX3_nearestOpen) (pc := 117) dX3_nearestOpen_117 rfl ?_
              refine V_iload (Y := mX3_nearestOpen) (pc := 118) dX3_nearestOpen_118 rfl ?_
              apply V_vV (Y := mX3_nearestOpen) (pc := 120) dX3_nearestOpen_120 ok_X3_grow ov_X3_grow ln_X3_95 (c_grow (s := s) h hn ht htd hF ⟨hr.1, hr.2.1⟩ hmem)
              · assumption
              · rfl
              · rfl
              · rfl
              · rfl
              · rfl
              rintro w_120 ⟨g1, k1⟩
              refine V_iinc (Y := mX3_nearestOpen) (pc := 123) dX3_nearestOpen_123 rfl rfl ?_
              refine V_goto (tgt := 16) (Y := mX3_nearestOpen) (pc := 126) dX3_nearestOpen_126 (by decide) ?_
              refine V_drop 6 (V_drop 7 (V_drop 8 ?_))
              rw [if_neg (fun z => by first | exact z.1 h_50 | (have := z.2; omega))] at hG
              first
                | (have e : nrPick hh s best bd = (s, z_88) := by rw [nrPick, ← ez]; exact if_pos ⟨by omega, by omega⟩
                   rw [e] at hG
                   have hsn : s ≠ -1 := by omega
                   rw [if_neg hsn] at hG
                   exact ih (i + 1) _ F s z_88 (by omega) (by omega) (by omega) (Or.inr hmem) ⟨by omega, by omega⟩ hfr hF h hG)
                | (have e : nrPick hh s best bd = (best, bd) := by rw [nrPick, ← ez]; exact if_neg (fun z => by have := z.1; have := z.2; omega)
                   rw [e] at hG
                   rw [if_pos h_114] at hG
                   exact ih (i + 1) w_120 _ best bd (by omega) (by omega) (by omega) (Or.inl h_114) hbd (hfr.trans k1) hx.1 g1 hG)
                | (have e : nrPick hh s best bd = (best, bd) := by rw [nrPick, ← ez]; exact if_neg (fun z => by have := z.1; have := z.2; omega)
                   rw [e] at hG
                   rw [if_neg h_114] at hG
                   exact ih (i + 1) _ F best bd (by omega) (by omega) (by omega) hbest hbd hfr hF h hG)
                | (exfalso; omega)
          · refine V_iload (Y := mX3_nearestOpen) (pc := 98) dX3_nearestOpen_98 rfl ?_
            refine V_iload (Y := mX3_nearestOpen) (pc := 100) dX3_nearestOpen_100 rfl ?_
            refine V_icmp_ge (tgt := 112) (Y := mX3_nearestOpen) (pc := 102) dX3_nearestOpen_102 (by decide) ⟨by omega, by omega⟩ ⟨by omega, by omega⟩ (fun h_102 => ?_) (fun h_102 => ?_)
            · refine V_iload_n (Y := mX3_nearestOpen) (pc := 112) dX3_nearestOpen_112 rfl ?_
              refine V_iconst (Y := mX3_nearestOpen) (pc := 113) dX3_nearestOpen_113 ?_
              refine V_icmp_ne (tgt := 123) (Y := mX3_nearestOpen) (pc := 114) dX3_nearestOpen_114 (by decide) ⟨by omega, by omega⟩ ⟨by omega, by omega⟩ (fun h_114 => ?_) (fun h_114 => ?_)
              · refine V_iinc (Y := mX3_nearestOpen) (pc := 123) dX3_nearestOpen_123 rfl rfl ?_
                refine V_goto (tgt := 16) (Y := mX3_nearestOpen) (pc := 126) dX3_nearestOpen_126 (by decide) ?_
                refine V_drop 6 (V_drop 7 (V_drop 8 ?_))
                rw [if_neg (fun z => by first | exact z.1 h_50 | (have := z.2; omega))] at hG
                first
                  | (have e : nrPick hh s best bd = (s, z_88) := by rw [nrPick, ← ez]; exact if_pos ⟨by omega, by omega⟩
                     rw [e] at hG
                     have hsn : s ≠ -1 := by omega
                     rw [if_neg hsn] at hG
                     exact ih (i + 1) _ F s z_88 (by omega) (by omega) (by omega) (Or.inr hmem) ⟨by omega, by omega⟩ hfr hF h hG)
                  | (have e : nrPick hh s best bd = (best, bd) := by rw [nrPick, ← ez]; exact if_neg (fun z => by have := z.1; have := z.2; omega)
                     rw [e] at hG
                     rw [if_pos h_114] at hG
                     exact ih (i + 1) w_120 _ best bd (by omega) (by omega) (by omega) (Or.inl h_114) hbd (hfr.trans k1) hx.1 g1 hG)
                  | (have e : nrPick hh s best bd = (best, bd) := by rw [nrPick, ← ez]; exact if_neg (fun z => by have := z.1; have := z.2; omega)
                     rw [e] at hG
                     rw [if_neg h_114] at hG
                     exact ih (i + 1) _ F best bd (by omega) (by omega) (by omega) hbest hbd hfr hF h hG)
                  | (exfalso; omega)
              · refine V_aload_n (Y := mX3_nearestOpen) (pc := 117) dX3_nearestOpen_117 rfl ?_
                refine V_iload (Y := mX3_nearestOpen) (pc := 118) dX3_nearestOpen_118 rfl ?_
                apply V_vV (Y := mX3_nearestOpen) (pc := 120) dX3_nearestOpen_120 ok_X3_grow ov_X3_grow ln_X3_95 (c_grow (s := s) h hn ht htd hF ⟨hr.1, hr.2.1⟩ hmem)
                · assumption
                · rfl
                · rfl
                · rfl
                · rfl
                · rfl
                rintro w_120 ⟨g1, k1⟩
                refine V_iinc (Y := mX3_nearestOpen) (pc := 123) dX3_nearestOpen_123 rfl rfl ?_
                refine V_goto (tgt := 16) (Y := mX3_nearestOpen) (pc := 126) dX3_nearestOpen_126 (by decide) ?_
                refine V_drop 6 (V_drop 7 (V_drop 8 ?_))
                rw [if_neg (fun z => by first | exact z.1 h_50 | (have := z.2; omega))] at hG
                first
                  | (have e : nrPick hh s best bd = (s, z_88) := by rw [nrPick, ← ez]; exact if_pos ⟨by omega, by omega⟩
                     rw [e] at hG
                     have hsn : s ≠ -1 := by omega
                     rw [if_neg hsn] at hG
                     exact ih (i + 1) _ F s z_88 (by omega) (by omega) (by omega) (Or.inr hmem) ⟨by omega, by omega⟩ hfr hF h hG)
                  | (have e : nrPick hh s best bd = (best, bd) := by rw [nrPick, ← ez]; exact if_neg (fun z => by have := z.1; have := z.2; omega)
                     rw [e] at hG
                     rw [if_pos h_114] at hG
                     exact ih (i + 1) w_120 _ best bd (by omega) (by omega) (by omega) (Or.inl h_114) hbd (hfr.trans k1) hx.1 g1 hG)
                  | (have e : nrPick hh s best bd = (best, bd) := by rw [nrPick, ← ez]; exact if_neg (fun z => by have := z.1; have := z.2; omega)
                     rw [e] at hG
                     rw [if_neg h_114] at hG
                     exact ih (i + 1) _ F best bd (by omega) (by omega) (by omega) hbest hbd hfr hF h hG)
                  | (exfalso; omega)
            · refine V_iload (Y := mX3_nearestOpen) (pc := 105) dX3_nearestOpen_105 rfl ?_
              refine V_istore_n (Y := mX3_nearestOpen) (pc := 107) dX3_nearestOpen_107 rfl ?_
              refine V_iload (Y := mX3_nearestOpen) (pc := 108) dX3_nearestOpen_108 rfl ?_
              refine V_istore (Y := mX3_nearestOpen) (pc := 110) dX3_nearestOpen_110 rfl ?_
              refine V_iload_n (Y := mX3_nearestOpen) (pc := 112) dX3_nearestOpen_112 rfl ?_
              refine V_iconst (Y := mX3_nearestOpen) (pc := 113) dX3_nearestOpen_113 ?_
              refine V_icmp_ne (tgt := 123) (Y := mX3_nearestOpen) (pc := 114) dX3_nearestOpen_114 (by decide) ⟨by omega, by omega⟩ ⟨by omega, by omega⟩ (fun h_114 => ?_) (fun h_114 => ?_)
              · refine V_iinc (Y := mX3_nearestOpen) (pc := 123) dX3_nearestOpen_123 rfl rfl ?_
                refine V_goto (tgt := 16) (Y := mX3_nearestOpen) (pc := 126) dX3_nearestOpen_126 (by decide) ?_
                refine V_drop 6 (V_drop 7 (V_drop 8 ?_))
                rw [if_neg (fun z => by first | exact z.1 h_50 | (have := z.2; omega))] at hG
                first
                  | (have e : nrPick hh s best bd = (s, z_88) := by rw [nrPick, ← ez]; exact if_pos ⟨by omega, by omega⟩
                     rw [e] at hG
                     have hsn : s ≠ -1 := by omega
                     rw [if_neg hsn] at hG
                     exact ih (i + 1) _ F s z_88 (by omega) (by omega) (by omega) (Or.inr hmem) ⟨by omega, by omega⟩ hfr hF h hG)
                  | (have e : nrPick hh s best bd = (best, bd) := by rw [nrPick, ← ez]; exact if_neg (fun z => by have := z.1; have := z.2; omega)
                     rw [e] at hG
                     rw [if_pos h_114] at hG
                     exact ih (i + 1) w_120 _ best bd (by omega) (by omega) (by omega) (Or.inl h_114) hbd (hfr.trans k1) hx.1 g1 hG)
                  | (have e : nrPick hh s best bd = (best, bd) := by rw [nrPick, ← ez]; exact if_neg (fun z => by have := z.1; have := z.2; omega)
                     rw [e] at hG
                     rw [if_neg h_114] at hG
                     exact ih (i + 1) _ F best bd (by omega) (by omega) (by omega) hbest hbd hfr hF h hG)
                  | (exfalso; omega)
              · refine V_aload_n (Y := mX3_nearestOpen) (pc := 117) dX3_nearestOpen_117 rfl ?_
                refine V_iload (Y := mX3_nearestOpen) (pc := 118) dX3_nearestOpen_118 rfl ?_
                apply V_vV (Y := mX3_nearestOpen) (pc := 120) dX3_nearestOpen_120 ok_X3_grow ov_X3_grow ln_X3_95 (c_grow (s := s) h hn ht htd hF ⟨hr.1, hr.2.1⟩ hmem)
                · assumption
                · rfl
                · rfl
                · rfl
                · rfl
                · rfl
                rintro w_120 ⟨g1, k1⟩
                refine V_iinc (Y := mX3_nearestOpen) (pc := 123) dX3_nearestOpen_123 rfl rfl ?_
                refine V_goto (tgt := 16) (Y := mX3_nearestOpen) (pc := 126) dX3_nearestOpen_126 (by decide) ?_
                refine V_drop 6 (V_drop 7 (V_drop 8 ?_))
                rw [if_neg (fun z => by first | exact z.1 h_50 | (have := z.2; omega))] at hG
                first
                  | (have e : nrPick hh s best bd = (s, z_88) := by rw [nrPick, ← ez]; exact if_pos ⟨by omega, by omega⟩
                     rw [e] at hG
                     have hsn : s ≠ -1 := by omega
                     rw [if_neg hsn] at hG
                     exact ih (i + 1) _ F s z_88 (by omega) (by omega) (by omega) (Or.inr hmem) ⟨by omega, by omega⟩ hfr hF h hG)
                  | (have e : nrPick hh s best bd = (best, bd) := by rw [nrPick, ← ez]; exact if_neg (fun z => by have := z.1; have := z.2; omega)
                     rw [e] at hG
                     rw [if_pos h_114] at hG
                     exact ih (i + 1) w_120 _ best bd (by omega) (by omega) (by omega) (Or.inl h_114) hbd (hfr.trans k1) hx.1 g1 hG)
                  | (have e : nrPick hh s best bd = (best, bd) := by rw [nrPick, ← ez]; exact if_neg (fun z => by have := z.1; have := z.2; omega)
                     rw [e] at hG
                     rw [if_neg h_114] at hG
                     exact ih (i + 1) _ F best bd (by omega) (by omega) (by omega) hbest hbd hfr hF h hG)
                  | (exfalso; omega)
        · refine V_goto (tgt := 129) (Y := mX3_nearestOpen) (pc := 73) dX3_nearestOpen_73 (by decide) ?_
          refine V_iload_n (Y := mX3_nearestOpen) (pc := 129) dX3_nearestOpen_129 rfl ?_
          refine V_iret (Y := mX3_nearestOpen) (pc := 130) dX3_nearestOpen_130 rfl (Nat.le_of_ble_eq_true rfl) (Nat.le_of_ble_eq_true rfl) ?_
          first
            | (rw [if_pos ⟨h_50, h_70⟩] at hG
               subst hG
               exact pI_of ⟨rfl, h, hfr⟩)
            | (rw [fNear, if_neg (by omega)] at hG
               subst hG
               exact pI_of ⟨rfl, h, hfr⟩)
set_option maxRecDepth 100000 in
theorem c_nearestOpen {nn : Nat} {w : vWd} {q hh : Nat} {lr n tf tt tb s : Int} {st : List Int} {F : bF} (h : WalkAt w q lr n (p3 n.toNat) tf tt tb st F) (hn : 0 ≤ n ∧ n ≤ 7) (ht : tbOK n st) (htd : tdOK n tf tt tb) (hH : hh < 128) (hF : FOK (p3 n.toNat) F) (hs : isS n s) : Ctr mX3_nearestOpen (rm 4) [.ref q, vI s, vI (hh : Int)] nn w (pI (fun z w' => z = (fNear (stpF st tf tt tb) n.toNat hh 2188 0 (-1) 7 (fMeet F s (-1) (-1))).1 ∧ WalkAt w' q lr n (p3 n.toNat) tf tt tb st (fNear (stpF st tf tt tb) n.toNat hh 2188 0 (-1) 7 (fMeet F s (-1) (-1))).2 ∧ frK q w w') nn) := by
  refine Ctr_of (lv := [some (.ref q), some (vI s), some (vI (hh : Int)), none, none, none, none, none, none]) (by decide +kernel) rfl rfl ?_
  have ho := h.obj
  have hp := p3_le n.toNat (by omega)
  refine V_iconst (Y := mX3_nearestOpen) (pc := 0) dX3_nearestOpen_0 ?_
  refine V_istore_n (Y := mX3_nearestOpen) (pc := 1) dX3_nearestOpen_1 rfl ?_
  refine V_bipush (Y := mX3_nearestOpen) (pc := 2) dX3_nearestOpen_2 ⟨by decide, by decide⟩ ?_
  refine V_istore (Y := mX3_nearestOpen) (pc := 4) dX3_nearestOpen_4 rfl ?_
  refine V_aload_n (Y := mX3_nearestOpen) (pc := 6) dX3_nearestOpen_6 rfl ?_
  refine V_iload_n (Y := mX3_nearestOpen) (pc := 7) dX3_nearestOpen_7 rfl ?_
  refine V_iconst (Y := mX3_nearestOpen) (pc := 8) dX3_nearestOpen_8 ?_
  refine V_iconst (Y := mX3_nearestOpen) (pc := 9) dX3_nearestOpen_9 ?_
  apply V_vV (Y := mX3_nearestOpen) (pc := 10) dX3_nearestOpen_10 ok_X3_meet ov_X3_meet ln_X3_87 (c_meet (s := s) (f := -1) (d := -1) h hF hs ⟨by omega, by omega⟩)
  · assumption
  · rfl
  · rfl
  · rfl
  · rfl
  · rfl
  rintro w_10 ⟨g1, k1⟩
  refine V_iconst (Y := mX3_nearestOpen) (pc := 13) dX3_nearestOpen_13 ?_
  refine V_istore (Y := mX3_nearestOpen) (pc := 14) dX3_nearestOpen_14 rfl ?_
  exact lp_nearestOpen hn ht htd hH 2188 0 w_10 _ (-1) 7 (by omega) (by omega) (by omega) (Or.inl rfl) ⟨by omega, by omega⟩ k1 (hF.meet hs (Or.inl rfl)) g1 rfl
