/-! ===== the nearest of some drawers; two of Integer's own ===== -/
theorem V_iaddR {Y : vMeth} {R : Room} {Q : vPost} {pc : Nat} {lv : vLs} {st : List Value} {n : Nat} {w : vWd} {kc ks : Nat} {x y v : Int32} (hd : decode Y.2.1 pc = .ok (.iadd, 1)) (hv : x + y = v) (k : V Y R Q (pc + 1) lv (.int v :: st) n w kc ks) : V Y R Q pc lv (.int y :: .int x :: st) n w kc ks := by
  intro p l e s m args below meth c b sa cA D H locs ls E hw hS hb hl
  subst hv
  exact lv_iadd E.1 E.2.1 hd (k p l e s m args below meth c b sa cA D H locs ls E hw hS hb hl)
theorem V_isubR {Y : vMeth} {R : Room} {Q : vPost} {pc : Nat} {lv : vLs} {st : List Value} {n : Nat} {w : vWd} {kc ks : Nat} {x y v : Int32} (hd : decode Y.2.1 pc = .ok (.isub, 1)) (hv : x - y = v) (k : V Y R Q (pc + 1) lv (.int v :: st) n w kc ks) : V Y R Q pc lv (.int y :: .int x :: st) n w kc ks := by
  intro p l e s m args below meth c b sa cA D H locs ls E hw hS hb hl
  subst hv
  exact lv_isub E.1 E.2.1 hd (k p l e s m args below meth c b sa cA D H locs ls E hw hS hb hl)
def us (s : Int) (x : Int32) : Int32 := (x.toUInt32 >>> ((iI s).toUInt32 &&& Int32.toUInt32 31)).toInt32
def bc1 (x : Int32) : Int32 := x - (us 1 x &&& 1431655765)
def bc2 (x : Int32) : Int32 := (x &&& 858993459) + (us 2 x &&& 858993459)
def bc3 (x : Int32) : Int32 := (x + us 4 x) &&& 252645135
def bc4 (x : Int32) : Int32 := x + us 8 x
def bc5 (x : Int32) : Int32 := (x + us 16 x) &&& iI 63
def pcB (a : Nat) : Nat → Int
  | 0 => 0
  | m + 1 => pcB a m + (if a.testBit m = true then 1 else 0)
theorem bc_key : ∀ a, a < 128 → bc5 (bc4 (bc3 (bc2 (bc1 (iI ((a : Nat) : Int)))))) = iI (pcB a 7) := by decide +kernel
set_option maxRecDepth 100000 in
theorem c_bitCount {n : Nat} {w : vWd} {a : Nat} (ha : a < 128) : Ctr mJ6_bitCount_0f7a4 (rm 0) [vI (a : Int)] n w (pR (vI (pcB a 7)) n w) := by
  refine Ctr_ofF (lv := [some (vI (a : Int))]) (by decide +kernel) rfl rfl ?_
  refine V_iload_n (Y := mJ6_bitCount_0f7a4) (pc := 0) dJ6_bitCount_0f7a4_0 rfl ?_
  refine V_iload_n (Y := mJ6_bitCount_0f7a4) (pc := 1) dJ6_bitCount_0f7a4_1 rfl ?_
  refine V_iconst (Y := mJ6_bitCount_0f7a4) (pc := 2) dJ6_bitCount_0f7a4_2 ?_
  refine V_iushr (Y := mJ6_bitCount_0f7a4) (pc := 3) dJ6_bitCount_0f7a4_3 (rfl) ?_
  refine V_ldcw (Y := mJ6_bitCount_0f7a4) (pc := 4) dJ6_bitCount_0f7a4_4 ck_J6_265 ?_
  refine V_iand (Y := mJ6_bitCount_0f7a4) (pc := 7) dJ6_bitCount_0f7a4_7 (rfl) ?_
  refine V_isubR (Y := mJ6_bitCount_0f7a4) (pc := 8) dJ6_bitCount_0f7a4_8 rfl ?_
  refine V_istore_n (Y := mJ6_bitCount_0f7a4) (pc := 9) dJ6_bitCount_0f7a4_9 rfl ?_
  refine V_iload_n (Y := mJ6_bitCount_0f7a4) (pc := 10) dJ6_bitCount_0f7a4_10 rfl ?_
  refine V_ldcw (Y := mJ6_bitCount_0f7a4) (pc := 11) dJ6_bitCount_0f7a4_11 ck_J6_266 ?_
  refine V_iand (Y := mJ6_bitCount_0f7a4) (pc := 14) dJ6_bitCount_0f7a4_14 (rfl) ?_
  refine V_iload_n (Y := mJ6_bitCount_0f7a4) (pc := 15) dJ6_bitCount_0f7a4_15 rfl ?_
  refine V_iconst (Y := mJ6_bitCount_0f7a4) (pc := 16) dJ6_bitCount_0f7a4_16 ?_
  refine V_iushr (Y := mJ6_bitCount_0f7a4) (pc := 17) dJ6_bitCount_0f7a4_17 (rfl) ?_
  refine V_ldcw (Y := mJ6_bitCount_0f7a4) (pc := 18) dJ6_bitCount_0f7a4_18 ck_J6_266 ?_
  refine V_iand (Y := mJ6_bitCount_0f7a4) (pc := 21) dJ6_bitCount_0f7a4_21 (rfl) ?_
  refine V_iaddR (Y := mJ6_bitCount_0f7a4) (pc := 22) dJ6_bitCount_0f7a4_22 rfl ?_
  refine V_istore_n (Y := mJ6_bitCount_0f7a4) (pc := 23) dJ6_bitCount_0f7a4_23 rfl ?_
  refine V_iload_n (Y := mJ6_bitCount_0f7a4) (pc := 24) dJ6_bitCount_0f7a4_24 rfl ?_
  refine V_iload_n (Y := mJ6_bitCount_0f7a4) (pc := 25) dJ6_bitCount_0f7a4_25 rfl ?_
  refine V_iconst (Y := mJ6_bitCount_0f7a4) (pc := 26) dJ6_bitCount_0f7a4_26 ?_
  refine V_iushr (Y := mJ6_bitCount_0f7a4) (pc := 27) dJ6_bitCount_0f7a4_27 (rfl) ?_
  refine V_iaddR (Y := mJ6_bitCount_0f7a4) (pc := 28) dJ6_bitCount_0f7a4_28 rfl ?_
  refine V_ldcw (Y := mJ6_bitCount_0f7a4) (pc := 29) dJ6_bitCount_0f7a4_29 ck_J6_267 ?_
  refine V_iand (Y := mJ6_bitCount_0f7a4) (pc := 32) dJ6_bitCount_0f7a4_32 (rfl) ?_
  refine V_istore_n (Y := mJ6_bitCount_0f7a4) (pc := 33) dJ6_bitCount_0f7a4_33 rfl ?_
  refine V_iload_n (Y := mJ6_bitCount_0f7a4) (pc := 34) dJ6_bitCount_0f7a4_34 rfl ?_
  refine V_iload_n (Y := mJ6_bitCount_0f7a4) (pc := 35) dJ6_bitCount_0f7a4_35 rfl ?_
  refine V_bipush (Y := mJ6_bitCount_0f7a4) (pc := 36) dJ6_bitCount_0f7a4_36 ⟨by decide, by decide⟩ ?_
  refine V_iushr (Y := mJ6_bitCount_0f7a4) (pc := 38) dJ6_bitCount_0f7a4_38 (rfl) ?_
  refine V_iaddR (Y := mJ6_bitCount_0f7a4) (pc := 39) dJ6_bitCount_0f7a4_39 rfl ?_
  refine V_istore_n (Y := mJ6_bitCount_0f7a4) (pc := 40) dJ6_bitCount_0f7a4_40 rfl ?_
  refine V_iload_n (Y := mJ6_bitCount_0f7a4) (pc := 41) dJ6_bitCount_0f7a4_41 rfl ?_
  refine V_iload_n (Y := mJ6_bitCount_0f7a4) (pc := 42) dJ6_bitCount_0f7a4_42 rfl ?_
  refine V_bipush (Y := mJ6_bitCount_0f7a4) (pc := 43) dJ6_bitCount_0f7a4_43 ⟨by decide, by decide⟩ ?_
  refine V_iushr (Y := mJ6_bitCount_0f7a4) (pc := 45) dJ6_bitCount_0f7a4_45 (rfl) ?_
  refine V_iaddR (Y := mJ6_bitCount_0f7a4) (pc := 46) dJ6_bitCount_0f7a4_46 rfl ?_
  refine V_istore_n (Y := mJ6_bitCount_0f7a4) (pc := 47) dJ6_bitCount_0f7a4_47 rfl ?_
  refine V_iload_n (Y := mJ6_bitCount_0f7a4) (pc := 48) dJ6_bitCount_0f7a4_48 rfl ?_
  refine V_bipush (Y := mJ6_bitCount_0f7a4) (pc := 49) dJ6_bitCount_0f7a4_49 ⟨by decide, by decide⟩ ?_
  refine V_iand (Y := mJ6_bitCount_0f7a4) (pc := 51) dJ6_bitCount_0f7a4_51 (rfl) ?_
  refine V_iret (Y := mJ6_bitCount_0f7a4) (pc := 52) dJ6_bitCount_0f7a4_52 rfl (Nat.le_of_ble_eq_true rfl) (Nat.le_of_ble_eq_true rfl) ?_
  exact pR_of (congrArg Value.int (bc_key a ha))
theorem iI_ushr {X : Nat} (h : X < 4294967296) (k : Nat) (hk : (((iI (k : Int)).toUInt32 &&& Int32.toUInt32 31).toBitVec % 32).toNat = k) : ((iI (X : Int)).toUInt32 >>> ((iI (k : Int)).toUInt32 &&& Int32.toUInt32 31)).toInt32 = iI ((X / 2 ^ k : Nat) : Int) := by
  have := pk_ushrN (n := X) h (iI (k : Int)) k hk
  rw [nI_iI, nI_iI] at this
  exact this
set_option maxRecDepth 100000 in
theorem c_ntz {n : Nat} {w : vWd} {a : Nat} (ha : a < 128) : Ctr mJ6_numberOfTrailingZeros_0f7a4 (rm 0) [vI (a : Int)] n w (pI (fun z w' => isNtz a z ∧ w' = w) n) := by
  refine Ctr_ofF (lv := [some (vI (a : Int)), none]) (by decide +kernel) rfl rfl ?_
  obtain ⟨x, r, hx, hcase⟩ := ntz_x a ha
  rcases hcase with ⟨h0, hx1, hr⟩ | ⟨k, hk, hr, hx1, hb, hj⟩
  · subst hx1
    refine V_iload_n (Y := mJ6_numberOfTrailingZeros_0f7a4) (pc := 0) dJ6_numberOfTrailingZeros_0f7a4_0 rfl ?_
    refine V_iconst (Y := mJ6_numberOfTrailingZeros_0f7a4) (pc := 1) dJ6_numberOfTrailingZeros_0f7a4_1 ?_
    refine V_ixor (Y := mJ6_numberOfTrailingZeros_0f7a4) (pc := 2) dJ6_numberOfTrailingZeros_0f7a4_2 (rfl) ?_
    refine V_iload_n (Y := mJ6_numberOfTrailingZeros_0f7a4) (pc := 3) dJ6_numberOfTrailingZeros_0f7a4_3 rfl ?_
    refine V_iconst (Y := mJ6_numberOfTrailingZeros_0f7a4) (pc := 4) dJ6_numberOfTrailingZeros_0f7a4_4 ?_
    refine V_isub (Y := mJ6_numberOfTrailingZeros_0f7a4) (pc := 5) dJ6_numberOfTrailingZeros_0f7a4_5 ?_
    refine V_iand (Y := mJ6_numberOfTrailingZeros_0f7a4) (pc := 6) dJ6_numberOfTrailingZeros_0f7a4_6 (hx) ?_
    refine V_istore_n (Y := mJ6_numberOfTrailingZeros_0f7a4) (pc := 7) dJ6_numberOfTrailingZeros_0f7a4_7 rfl ?_
    refine V_iload_n (Y := mJ6_numberOfTrailingZeros_0f7a4) (pc := 8) dJ6_numberOfTrailingZeros_0f7a4_8 rfl ?_
    refine V_if_gt (tgt := 17) (Y := mJ6_numberOfTrailingZeros_0f7a4) (pc := 9) dJ6_numberOfTrailingZeros_0f7a4_9 (by decide) ⟨by omega, by omega⟩ (fun h_9 => absurd h_9 (by omega)) (fun h_9 => ?_)
    refine V_iload_n (Y := mJ6_numberOfTrailingZeros_0f7a4) (pc := 12) dJ6_numberOfTrailingZeros_0f7a4_12 rfl ?_
    refine V_bipush (Y := mJ6_numberOfTrailingZeros_0f7a4) (pc := 13) dJ6_numberOfTrailingZeros_0f7a4_13 ⟨by decide, by decide⟩ ?_
    refine V_iand (Y := mJ6_numberOfTrailingZeros_0f7a4) (pc := 15) dJ6_numberOfTrailingZeros_0f7a4_15 ((show iI (-1) &&& iI 32 = iI 32 from by decide)) ?_
    refine V_iret (Y := mJ6_numberOfTrailingZeros_0f7a4) (pc := 16) dJ6_numberOfTrailingZeros_0f7a4_16 rfl (Nat.le_of_ble_eq_true rfl) (Nat.le_of_ble_eq_true rfl) ?_
    exact pI_of ⟨Or.inl ⟨h0, rfl⟩, rfl⟩
  · obtain ⟨X, hX⟩ : ∃ X : Nat, X = 2 ^ k - 1 := ⟨_, rfl⟩
    rw [← hX] at hx1
    subst hx1
    have hXv : (k = 0 ∧ X = 0) ∨ (k = 1 ∧ X = 1) ∨ (k = 2 ∧ X = 3) ∨ (k = 3 ∧ X = 7) ∨ (k = 4 ∧ X = 15) ∨ (k = 5 ∧ X = 31) ∨ (k = 6 ∧ X = 63) := by
      subst hX
      rcases (show k = 0 ∨ k = 1 ∨ k = 2 ∨ k = 3 ∨ k = 4 ∨ k = 5 ∨ k = 6 by omega) with rfl | rfl | rfl | rfl | rfl | rfl | rfl <;> simp
    have hX63 : X ≤ 63 := by omega
    have fin : ∀ z : Int, z = (k : Int) → isNtz a z ∧ w = w := fun z hz => ⟨Or.inr ⟨k, hk, hz, hb, hj⟩, rfl⟩
    refine V_iload_n (Y := mJ6_numberOfTrailingZeros_0f7a4) (pc := 0) dJ6_numberOfTrailingZeros_0f7a4_0 rfl ?_
    refine V_iconst (Y := mJ6_numberOfTrailingZeros_0f7a4) (pc := 1) dJ6_numberOfTrailingZeros_0f7a4_1 ?_
    refine V_ixor (Y := mJ6_numberOfTrailingZeros_0f7a4) (pc := 2) dJ6_numberOfTrailingZeros_0f7a4_2 (rfl) ?_
    refine V_iload_n (Y := mJ6_numberOfTrailingZeros_0f7a4) (pc := 3) dJ6_numberOfTrailingZeros_0f7a4_3 rfl ?_
    refine V_iconst (Y := mJ6_numberOfTrailingZeros_0f7a4) (pc := 4) dJ6_numberOfTrailingZeros_0f7a4_4 ?_
    refine V_isub (Y := mJ6_numberOfTrailingZeros_0f7a4) (pc := 5) dJ6_numberOfTrailingZeros_0f7a4_5 ?_
    refine V_iand (Y := mJ6_numberOfTrailingZeros_0f7a4) (pc := 6) dJ6_numberOfTrailingZeros_0f7a4_6 (hx) ?_
    refine V_istore_n (Y := mJ6_numberOfTrailingZeros_0f7a4) (pc := 7) dJ6_numberOfTrailingZeros_0f7a4_7 rfl ?_
    refine V_iload_n (Y := mJ6_numberOfTrailingZeros_0f7a4) (pc := 8) dJ6_numberOfTrailingZeros_0f7a4_8 rfl ?_
    refine V_if_gt (tgt := 17) (Y := mJ6_numberOfTrailingZeros_0f7a4) (pc := 9) dJ6_numberOfTrailingZeros_0f7a4_9 (by decide) ⟨by omega, by omega⟩ (fun h_9 => ?_) (fun h_9 => ?_)
    · refine V_iconst (Y := mJ6_numberOfTrailingZeros_0f7a4) (pc := 17) dJ6_numberOfTrailingZeros_0f7a4_17 ?_
      refine V_istore_n (Y := mJ6_numberOfTrailingZeros_0f7a4) (pc := 18) dJ6_numberOfTrailingZeros_0f7a4_18 rfl ?_
      refine V_iload_n (Y := mJ6_numberOfTrailingZeros_0f7a4) (pc := 19) dJ6_numberOfTrailingZeros_0f7a4_19 rfl ?_
      refine V_ldcw (Y := mJ6_numberOfTrailingZeros_0f7a4) (pc := 20) dJ6_numberOfTrailingZeros_0f7a4_20 ck_J6_264 ?_
      rw [show (65536 : Int32) = iI 65536 from rfl]
      refine V_icmp_le (tgt := 34) (Y := mJ6_numberOfTrailingZeros_0f7a4) (pc := 23) dJ6_numberOfTrailingZeros_0f7a4_23 (by decide) ⟨by omega, by omega⟩ ⟨by omega, by omega⟩ (fun h_23 => ?_) (fun h_23 => absurd h_23 (by omega))
      refine V_iload_n (Y := mJ6_numberOfTrailingZeros_0f7a4) (pc := 34) dJ6_numberOfTrailingZeros_0f7a4_34 rfl ?_
      refine V_sipush (Y := mJ6_numberOfTrailingZeros_0f7a4) (pc := 35) dJ6_numberOfTrailingZeros_0f7a4_35 ⟨by decide, by decide⟩ ?_
      refine V_icmp_le (tgt := 49) (Y := mJ6_numberOfTrailingZeros_0f7a4) (pc := 38) dJ6_numberOfTrailingZeros_0f7a4_38 (by decide) ⟨by omega, by omega⟩ ⟨by omega, by omega⟩ (fun h_38 => ?_) (fun h_38 => absurd h_38 (by omega))
      refine V_iload_n (Y := mJ6_numberOfTrailingZeros_0f7a4) (pc := 49) dJ6_numberOfTrailingZeros_0f7a4_49 rfl ?_
      refine V_bipush (Y := mJ6_numberOfTrailingZeros_0f7a4) (pc := 50) dJ6_numberOfTrailingZeros_0f7a4_50 ⟨by decide, by decide⟩ ?_
      refine V_icmp_le (tgt := 62) (Y := mJ6_numberOfTrailingZeros_0f7a4) (pc := 52) dJ6_numberOfTrailingZeros_0f7a4_52 (by decide) ⟨by omega, by omega⟩ ⟨by omega, by omega⟩ (fun h_52 => ?_) (fun h_52 => ?_)
      · refine V_iload_n (Y := mJ6_numberOfTrailingZeros_0f7a4) (pc := 62) dJ6_numberOfTrailingZeros_0f7a4_62 rfl ?_
        refine V_iconst (Y := mJ6_numberOfTrailingZeros_0f7a4) (pc := 63) dJ6_numberOfTrailingZeros_0f7a4_63 ?_
        refine V_icmp_le (tgt := 74) (Y := mJ6_numberOfTrailingZeros_0f7a4) (pc := 64) dJ6_numberOfTrailingZeros_0f7a4_64 (by decide) ⟨by omega, by omega⟩ ⟨by omega, by omega⟩ (fun h_64 => ?_) (fun h_64 => ?_)
        · refine V_iload_n (Y := mJ6_numberOfTrailingZeros_0f7a4) (pc := 74) dJ6_numberOfTrailingZeros_0f7a4_74 rfl ?_
          refine V_iload_n (Y := mJ6_numberOfTrailingZeros_0f7a4) (pc := 75) dJ6_numberOfTrailingZeros_0f7a4_75 rfl ?_
          refine V_iconst (Y := mJ6_numberOfTrailingZeros_0f7a4) (pc := 76) dJ6_numberOfTrailingZeros_0f7a4_76 ?_
          refine V_iushr (Y := mJ6_numberOfTrailingZeros_0f7a4) (pc := 77) dJ6_numberOfTrailingZeros_0f7a4_77 (iI_ushr (by omega) 1 (by decide)) ?_
          refine V_iadd (Y := mJ6_numberOfTrailingZeros_0f7a4) (pc := 78) dJ6_numberOfTrailingZeros_0f7a4_78 ?_
          refine V_iret (Y := mJ6_numberOfTrailingZeros_0f7a4) (pc := 79) dJ6_numberOfTrailingZeros_0f7a4_79 rfl (Nat.le_of_ble_eq_true rfl) (Nat.le_of_ble_eq_true rfl) ?_
          refine pI_of (fin _ ?_)
          rcases hXv with ⟨rfl, rfl⟩ | ⟨rfl, rfl⟩ | ⟨rfl, rfl⟩ | ⟨rfl, rfl⟩ | ⟨rfl, rfl⟩ | ⟨rfl, rfl⟩ | ⟨rfl, rfl⟩ <;> first | (exfalso; omega) | decide
        · refine V_iinc (Y := mJ6_numberOfTrailingZeros_0f7a4) (pc := 67) dJ6_numberOfTrailingZeros_0f7a4_67 rfl rfl ?_
          refine V_iload_n (Y := mJ6_numberOfTrailingZeros_0f7a4) (pc := 70) dJ6_numberOfTrailingZeros_0f7a4_70 rfl ?_
          refine V_iconst (Y := mJ6_numberOfTrailingZeros_0f7a4) (pc := 71) dJ6_numberOfTrailingZeros_0f7a4_71 ?_
          refine V_iushr (Y := mJ6_numberOfTrailingZeros_0f7a4) (pc := 72) dJ6_numberOfTrailingZeros_0f7a4_72 (iI_ushr (by omega) 2 (by decide)) ?_
          refine V_istore_n (Y := mJ6_numberOfTrailingZeros_0f7a4) (pc := 73) dJ6_numberOfTrailingZeros_0f7a4_73 rfl ?_
          refine V_iload_n (Y := mJ6_numberOfTrailingZeros_0f7a4) (pc := 74) dJ6_numberOfTrailingZeros_0f7a4_74 rfl ?_
          refine V_iload_n (Y := mJ6_numberOfTrailingZeros_0f7a4) (pc := 75) dJ6_numberOfTrailingZeros_0f7a4_75 rfl ?_
          refine V_iconst (Y := mJ6_numberOfTrailingZeros_0f7a4) (pc := 76) dJ6_numberOfTrailingZeros_0f7a4_76 ?_
          refine V_iushr (Y := mJ6_numberOfTrailingZeros_0f7a4) (pc := 77) dJ6_numberOfTrailingZeros_0f7a4_77 (iI_ushr (by omega) 1 (by decide)) ?_
          refine V_iadd (Y := mJ6_numberOfTrailingZeros_0f7a4) (pc := 78) dJ6_numberOfTrailingZeros_0f7a4_78 ?_
          refine V_iret (Y := mJ6_numberOfTrailingZeros_0f7a4) (pc := 79) dJ6_numberOfTrailingZeros_0f7a4_79 rfl (Nat.le_of_ble_eq_true rfl) (Nat.le_of_ble_eq_true rfl) ?_
          refine pI_of (fin _ ?_)
          rcases hXv with ⟨rfl, rfl⟩ | ⟨rfl, rfl⟩ | ⟨rfl, rfl⟩ | ⟨rfl, rfl⟩ | ⟨rfl, rfl⟩ | ⟨rfl, rfl⟩ | ⟨rfl, rfl⟩ <;> first | (exfalso; omega) | decide
      · refine V_iinc (Y := mJ6_numberOfTrailingZeros_0f7a4) (pc := 55) dJ6_numberOfTrailingZeros_0f7a4_55 rfl rfl ?_
        refine V_iload_n (Y := mJ6_numberOfTrailingZeros_0f7a4) (pc := 58) dJ6_numberOfTrailingZeros_0f7a4_58 rfl ?_
        refine V_iconst (Y := mJ6_numberOfTrailingZeros_0f7a4) (pc := 59) dJ6_numberOfTrailingZeros_0f7a4_59 ?_
        refine V_iushr (Y := mJ6_numberOfTrailingZeros_0f7a4) (pc := 60) dJ6_numberOfTrailingZeros_0f7a4_60 (iI_ushr (X := X) (by omega) 4 (by decide)) ?_
        refine V_istore_n (Y := mJ6_numberOfTrailingZeros_0f7a4) (pc := 61) dJ6_numberOfTrailingZeros_0f7a4_61 rfl ?_
        refine V_iload_n (Y := mJ6_numberOfTrailingZeros_0f7a4) (pc := 62) dJ6_numberOfTrailingZeros_0f7a4_62 rfl ?_
        refine V_iconst (Y := mJ6_numberOfTrailingZeros_0f7a4) (pc := 63) dJ6_numberOfTrailingZeros_0f7a4_63 ?_
        refine V_icmp_le (tgt := 74) (Y := mJ6_numberOfTrailingZeros_0f7a4) (pc := 64) dJ6_numberOfTrailingZeros_0f7a4_64 (by decide) ⟨by omega, by omega⟩ ⟨by omega, by omega⟩ (fun h_64 => ?_) (fun h_64 => ?_)
        · refine V_iload_n (Y := mJ6_numberOfTrailingZeros_0f7a4) (pc := 74) dJ6_numberOfTrailingZeros_0f7a4_74 rfl ?_
          refine V_iload_n (Y := mJ6_numberOfTrailingZeros_0f7a4) (pc := 75) dJ6_numberOfTrailingZeros_0f7a4_75 rfl ?_
          refine V_iconst (Y := mJ6_numberOfTrailingZeros_0f7a4) (pc := 76) dJ6_numberOfTrailingZeros_0f7a4_76 ?_
          refine V_iushr (Y := mJ6_numberOfTrailingZeros_0f7a4) (pc := 77) dJ6_numberOfTrailingZeros_0f7a4_77 (iI_ushr (by omega) 1 (by decide)) ?_
          refine V_iadd (Y := mJ6_numberOfTrailingZeros_0f7a4) (pc := 78) dJ6_numberOfTrailingZeros_0f7a4_78 ?_
          refine V_iret (Y := mJ6_numberOfTrailingZeros_0f7a4) (pc := 79) dJ6_numberOfTrailingZeros_0f7a4_79 rfl (Nat.le_of_ble_eq_true rfl) (Nat.le_of_ble_eq_true rfl) ?_
          refine pI_of (fin _ ?_)
          rcases hXv with ⟨rfl, rfl⟩ | ⟨rfl, rfl⟩ | ⟨rfl, rfl⟩ | ⟨rfl, rfl⟩ | ⟨rfl, rfl⟩ | ⟨rfl, rfl⟩ | ⟨rfl, rfl⟩ <;> first | (exfalso; omega) | decide
        · refine V_iinc (Y := mJ6_numberOfTrailingZeros_0f7a4) (pc := 67) dJ6_numberOfTrailingZeros_0f7a4_67 rfl rfl ?_
          refine V_iload_n (Y := mJ6_numberOfTrailingZeros_0f7a4) (pc := 70) dJ6_numberOfTrailingZeros_0f7a4_70 rfl ?_
          refine V_iconst (Y := mJ6_numberOfTrailingZeros_0f7a4) (pc := 71) dJ6_numberOfTrailingZeros_0f7a4_71 ?_
          refine V_iushr (Y := mJ6_numberOfTrailingZeros_0f7a4) (pc := 72) dJ6_numberOfTrailingZeros_0f7a4_72 (iI_ushr (by omega) 2 (by decide)) ?_
          refine V_istore_n (Y := mJ6_numberOfTrailingZeros_0f7a4) (pc := 73) dJ6_numberOfTrailingZeros_0f7a4_73 rfl ?_
          refine V_iload_n (Y := mJ6_numberOfTrailingZeros_0f7a4) (pc := 74) dJ6_numberOfTrailingZeros_0f7a4_74 rfl ?_
          refine V_iload_n (Y := mJ6_numberOfTrailingZeros_0f7a4) (pc := 75) dJ6_numberOfTrailingZeros_0f7a4_75 rfl ?_
          refine V_iconst (Y := mJ6_numberOfTrailingZeros_0f7a4) (pc := 76) dJ6_numberOfTrailingZeros_0f7a4_76 ?_
          refine V_iushr (Y := mJ6_numberOfTrailingZeros_0f7a4) (pc := 77) dJ6_numberOfTrailingZeros_0f7a4_77 (iI_ushr (by omega) 1 (by decide)) ?_
          refine V_iadd (Y := mJ6_numberOfTrailingZeros_0f7a4) (pc := 78) dJ6_numberOfTrailingZeros_0f7a4_78 ?_
          refine V_iret (Y := mJ6_numberOfTrailingZeros_0f7a4) (pc := 79) dJ6_numberOfTrailingZeros_0f7a4_79 rfl (Nat.le_of_ble_eq_true rfl) (Nat.le_of_ble_eq_true rfl) ?_
          refine pI_of (fin _ ?_)
          rcases hXv with ⟨rfl, rfl⟩ | ⟨rfl, rfl⟩ | ⟨rfl, rfl⟩ | ⟨rfl, rfl⟩ | ⟨rfl, rfl⟩ | ⟨rfl, rfl⟩ | ⟨rfl, rfl⟩ <;> first | (exfalso; omega) | decide
    · refine V_iload_n (Y := mJ6_numberOfTrailingZeros_0f7a4) (pc := 12) dJ6_numberOfTrailingZeros_0f7a4_12 rfl ?_
      refine V_bipush (Y := mJ6_numberOfTrailingZeros_0f7a4) (pc := 13) dJ6_numberOfTrailingZeros_0f7a4_13 ⟨by decide, by decide⟩ ?_
      refine V_iand (Y := mJ6_numberOfTrailingZeros_0f7a4) (pc := 15) dJ6_numberOfTrailingZeros_0f7a4_15 ((show iI (X : Int) &&& iI 32 = iI 0 from by rw [show X = 0 by omega]; decide)) ?_
      refine V_iret (Y := mJ6_numberOfTrailingZeros_0f7a4) (pc := 16) dJ6_numberOfTrailingZeros_0f7a4_16 rfl (Nat.le_of_ble_eq_true rfl) (Nat.le_of_ble_eq_true rfl) ?_
      exact pI_of (fin _ (by omega))
