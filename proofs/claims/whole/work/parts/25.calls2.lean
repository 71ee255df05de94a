/-! ===== DrawerWall: sights, counts, the digest ===== -/
theorem vGood.un {n now : Int} {ca po fo : Nat} {rs : Nat → List Int} (h : vGood (n, now, ca, po, fo, rs)) : (2 ≤ n ∧ n ≤ 7) ∧ isS n now ∧ ca < 128 ∧ po < 128 ∧ fo < 128 ∧ gdOK n rs ∧ cvOK n rs ∧ orOK rs ∧ sgOK n rs ∧ ∀ k : Int, 0 ≤ k → k < (rs 8).length → isS n (rAt (rs 8) k) := h
def cntOf (S : vSt) (tx : List Int) (a : Int) : Int := if a = 0 then S.1 else if a = 1 then ((S.2.2.2.2.2 1).length : Int) else if a = 2 then ((S.2.2.2.2.2 5).length : Int) else if a = 3 then ((S.2.2.2.2.2 6).length : Int) else if a = 4 then (tx.length : Int) else if a = 5 then ((S.2.2.2.2.2 8).length : Int) else S.2.1
def fCount (S : vSt) (tx : List Int) (a : Int) : Int := if 0 ≤ a ∧ a ≤ 6 then cntOf S tx a else -2
def hMx (f : Nat → Int) (h0 : Int) : Nat → Int
  | 0 => h0
  | m + 1 => 31 * hMx f h0 m + f m
def fl2 (f g : Nat → Int) (j : Nat) : Int := if j % 2 = 0 then f (j / 2) else g (j / 2)
def fl4 (f g p q : Nat → Int) (j : Nat) : Int := if j % 4 = 0 then f (j / 4) else if j % 4 = 1 then g (j / 4) else if j % 4 = 2 then p (j / 4) else q (j / 4)
theorem hMx_2 (f g : Nat → Int) (h0 : Int) (i : Nat) : hMx (fl2 f g) h0 (2 * (i + 1)) = 31 * (31 * hMx (fl2 f g) h0 (2 * i) + f i) + g i := by
  have e0 : fl2 f g (2 * i) = f i := by rw [fl2, if_pos (by omega), show 2 * i / 2 = i by omega]
  have e1 : fl2 f g (2 * i + 1) = g i := by rw [fl2, if_neg (by omega), show (2 * i + 1) / 2 = i by omega]
  rw [show 2 * (i + 1) = 2 * i + 1 + 1 by omega, hMx, hMx, e0, e1]
theorem hMx_4 (f g p q : Nat → Int) (h0 : Int) (i : Nat) : hMx (fl4 f g p q) h0 (4 * (i + 1)) = 31 * (31 * (31 * (31 * hMx (fl4 f g p q) h0 (4 * i) + f i) + g i) + p i) + q i := by
  have e0 : fl4 f g p q (4 * i) = f i := by rw [fl4, if_pos (by omega), show 4 * i / 4 = i by omega]
  have e1 : fl4 f g p q (4 * i + 1) = g i := by rw [fl4, if_neg (by omega), if_pos (by omega), show (4 * i + 1) / 4 = i by omega]
  have e2 : fl4 f g p q (4 * i + 1 + 1) = p i := by rw [fl4, if_neg (by omega), if_neg (by omega), if_pos (by omega), show (4 * i + 1 + 1) / 4 = i by omega]
  have e3 : fl4 f g p q (4 * i + 1 + 1 + 1) = q i := by rw [fl4, if_neg (by omega), if_neg (by omega), if_neg (by omega), show (4 * i + 1 + 1 + 1) / 4 = i by omega]
  rw [show 4 * (i + 1) = 4 * i + 1 + 1 + 1 + 1 by omega, hMx, hMx, hMx, hMx, e0, e1, e2, e3]
/-- the parts of the digest, the last first -/
def dgS (rs : Nat → List Int) : Nat → Int := fl2 (fun i => rAt (rs 6) i) (fun i => rAt (rs 7) i)
def dgO (rs : Nat → List Int) : Nat → Int := fun i => rAt (rs 5) i
def dgC (rs : Nat → List Int) : Nat → Int := fl4 (fun i => rAt (rs 1) i) (fun i => rAt (rs 2) i) (fun i => rAt (rs 3) i) (fun i => rAt (rs 4) i)
def dgD (ca : Nat) (rs : Nat → List Int) : Nat → Int := fl2 (fun i => bI (ca.testBit i = true)) (fun i => rAt (rs 0) i)
def dg5 (rs : Nat → List Int) (h : Int) : Int := hMx (dgS rs) h (2 * (rs 6).length)
def dg4 (rs : Nat → List Int) (h : Int) : Int := dg5 rs (hMx (dgO rs) h (rs 5).length)
def dg3 (po fo : Nat) (rs : Nat → List Int) (h : Int) : Int := dg4 rs (31 * (31 * (hMx (dgC rs) h (4 * (rs 1).length)) + (po : Int)) + (fo : Int))
def dg2 (n : Int) (ca po fo : Nat) (rs : Nat → List Int) (h : Int) : Int := dg3 po fo rs (hMx (dgD ca rs) h (2 * n.toNat))
def fDigest (S : vSt) (tx : List Int) : Int := dg2 S.1 S.2.2.1 S.2.2.2.1 S.2.2.2.2.1 S.2.2.2.2.2 (hMx (fun i => cntOf S tx i) 761 7)
noncomputable def ftC (P : Int → Prop) : Nat → Int
  | 0 => 0
  | m + 1 => ftC P m + cI (P m)
noncomputable def ftL (P : Int → Prop) : Nat → Int
  | 0 => -1
  | m + 1 => @ite Int (ftC P m = 0 ∧ P m) (Classical.propDecidable _) (m : Int) (ftL P m)
theorem ftC_rng (P : Int → Prop) : ∀ m : Nat, 0 ≤ ftC P m ∧ ftC P m ≤ m
  | 0 => ⟨Int.le_refl 0, Int.le_refl 0⟩
  | m + 1 => by
    have h := ftC_rng P m
    have h2 := cI_01 (P m)
    rw [ftC]
    omega
theorem ftL_pos (P : Int → Prop) : ∀ m : Nat, ftC P m ≠ 0 → 0 ≤ ftL P m
  | 0 => fun h => absurd rfl h
  | m + 1 => fun h => by
    rw [ftL]
    by_cases hc : ftC P m = 0 ∧ P m
    · rw [if_pos hc]; omega
    · rw [if_neg hc]
      refine ftL_pos P m (fun h0 => h ?_)
      have hp : ¬ P m := fun q => hc ⟨h0, q⟩
      rw [ftC, h0, cI_0.mpr hp]; rfl
theorem ftL_rng (P : Int → Prop) : ∀ m : Nat, -1 ≤ ftL P m ∧ ftL P m < (max 0 m : Nat) ∨ ftL P m = -1
  | 0 => Or.inr rfl
  | m + 1 => by
    have h := ftL_rng P m
    rw [ftL]
    split <;> omega
noncomputable def fFits (S : vSt) (a : Int) : Int := if ¬ (0 ≤ a ∧ a ≤ 1) then -2 else if a = 0 then ftC (fun x => seenP S.2.2.1 S.2.2.2.2.2 (iI x) (S.2.2.2.2.2 6).length) (p2 (S.2.2.2.2.2 1).length) else if ftC (fun x => seenP S.2.2.1 S.2.2.2.2.2 (iI x) (S.2.2.2.2.2 6).length) (p2 (S.2.2.2.2.2 1).length) = 0 then -3 else ftL (fun x => seenP S.2.2.1 S.2.2.2.2.2 (iI x) (S.2.2.2.2.2 6).length) (p2 (S.2.2.2.2.2 1).length)
section CLS
variable {nn : Nat} {w : vWd} {n now : Int} {ca po fo : Nat} {rs : Nat → List Int} {S0 S1 : vSt} {k0 k1 rb rn rf : Int} {tx : List Int}
set_option maxRecDepth 100000 in
theorem cx_sight {d s : Int} (h : XInv w (n, now, ca, po, fo, rs) S0 S1 k0 k1 tx rb rn rf) (hG : vGood (n, now, ca, po, fo, rs)) (hd : inR d) (hs : inR s) : Ctr mX5_sight (rm 3) [.ref 0, vI d, vI s] nn w (pI (fun z w' => z = (fSight (n, now, ca, po, fo, rs) d s).1 ∧ XInv w' (fSight (n, now, ca, po, fo, rs) d s).2 S0 S1 k0 k1 tx (tl1 (-2) z rb) (tl1 (-3) z rn) (tl1 (-4) z rf) ∧ frX w w') nn) := by
  refine Ctr_of (lv := [some (.ref 0), some (vI d), some (vI s)]) (by decide +kernel) rfl rfl ?_
  obtain ⟨ho, hW, hK, hr⟩ := h
  obtain ⟨hn, hnow, hca, hpo, hfo, hgd, hcv, hor, hsg, hpast⟩ := hG.un
  have oW := hW.obj
  have hl7 := hsg.1
  have hlc := hW.r6.len
  refine V_aload_n (Y := mX5_sight) (pc := 0) dX5_sight_0 rfl ?_
  apply V_get (Y := mX5_sight) (pc := 1) dX5_sight_1 fl_X5_10
  · assumption
  · rfl
  refine V_iload_n (Y := mX5_sight) (pc := 4) dX5_sight_4 rfl ?_
  apply V_vR (Y := mX5_sight) (pc := 5) dX5_sight_5 ok_X4_hasDrawer ov_X4_hasDrawer ln_X5_134 (c_hasDrawer (d := d) hW ⟨by omega, by omega⟩ hd)
  · assumption
  · rfl
  · rfl
  · rfl
  · rfl
  · rfl
  refine V_if_eqB (tgt := 22) (Y := mX5_sight) (pc := 8) dX5_sight_8 (by decide) (fun h_8 => ?_) (fun h_8 => ?_)
  · refine V_aload_n (Y := mX5_sight) (pc := 22) dX5_sight_22 rfl ?_
    refine V_bipush (Y := mX5_sight) (pc := 23) dX5_sight_23 ⟨by decide, by decide⟩ ?_
    apply V_vI (Y := mX5_sight) (pc := 25) dX5_sight_25 ok_X5_counted ov_X5_counted ln_X5_85 (c_told (z := -2) ho ⟨by omega, by omega⟩)
    · assumption
    · rfl
    · rfl
    · rfl
    · rfl
    · rfl
    rintro z_25 w_25 ⟨hz2, g3, f3⟩
    subst hz2
    refine V_iret (Y := mX5_sight) (pc := 28) dX5_sight_28 rfl (Nat.le_of_ble_eq_true rfl) (Nat.le_of_ble_eq_true rfl) ?_
    rw [show fSight (n, now, ca, po, fo, rs) d s = (-2, (n, now, ca, po, fo, rs)) from if_pos (fun q => by first | exact h_8 q.1 | exact h_19 q.2)]
    exact pI_of ⟨rfl, XInv.told hr hW hK (fun j hj => rfl) g3 f3⟩
  · refine V_aload_n (Y := mX5_sight) (pc := 11) dX5_sight_11 rfl ?_
    apply V_get (Y := mX5_sight) (pc := 12) dX5_sight_12 fl_X5_10
    · assumption
    · rfl
    refine V_iload_n (Y := mX5_sight) (pc := 15) dX5_sight_15 rfl ?_
    apply V_vR (Y := mX5_sight) (pc := 16) dX5_sight_16 ok_X4_hasState ov_X4_hasState ln_X5_154 (c_hasState (s := s) hW ⟨by omega, by omega⟩ hs)
    · assumption
    · rfl
    · rfl
    · rfl
    · rfl
    · rfl
    refine V_if_neB (tgt := 29) (Y := mX5_sight) (pc := 19) dX5_sight_19 (by decide) (fun h_19 => ?_) (fun h_19 => ?_)
    · refine V_aload_n (Y := mX5_sight) (pc := 29) dX5_sight_29 rfl ?_
      apply V_get (Y := mX5_sight) (pc := 30) dX5_sight_30 fl_X5_10
      · assumption
      · rfl
      apply V_get (Y := mX5_sight) (pc := 33) dX5_sight_33 fl_X5_234
      · assumption
      · rfl
      apply V_vR (Y := mX5_sight) (pc := 36) dX5_sight_36 ok_X2_isFull ov_X2_isFull ln_X5_192 (c_Row_isFull hW.r6)
      · exact hW.r6.obj
      · rfl
      · rfl
      · rfl
      · rfl
      · rfl
      refine V_if_eqB (tgt := 49) (Y := mX5_sight) (pc := 39) dX5_sight_39 (by decide) (fun h_39 => ?_) (fun h_39 => ?_)
      · refine V_aload_n (Y := mX5_sight) (pc := 49) dX5_sight_49 rfl ?_
        apply V_get (Y := mX5_sight) (pc := 50) dX5_sight_50 fl_X5_10
        · assumption
        · rfl
        apply V_get (Y := mX5_sight) (pc := 53) dX5_sight_53 fl_X5_234
        · assumption
        · rfl
        refine V_iload_n (Y := mX5_sight) (pc := 56) dX5_sight_56 rfl ?_
        apply V_vV (Y := mX5_sight) (pc := 57) dX5_sight_57 ok_X2_add ov_X2_add ln_X5_113 (c_Row_add hW.r6)
        · exact hW.r6.obj
        · rfl
        · rfl
        · rfl
        · rfl
        · rfl
        rintro w_57 ⟨g1, f1⟩
        rw [show rAdd 8 (rs 6) d = rs 6 ++ [d] from if_pos (by omega)] at g1
        have u1 := hW.upd 6 (by decide) rfl g1 f1
        have o1 := u1.obj
        have x1 := (f1 0 (by omega) (by omega)).trans ho
        refine V_aload_n (Y := mX5_sight) (pc := 60) dX5_sight_60 rfl ?_
        apply V_get (Y := mX5_sight) (pc := 61) dX5_sight_61 fl_X5_10
        · assumption
        · rfl
        apply V_get (Y := mX5_sight) (pc := 64) dX5_sight_64 fl_X5_237
        · assumption
        · rfl
        refine V_iload_n (Y := mX5_sight) (pc := 67) dX5_sight_67 rfl ?_
        apply V_vV (Y := mX5_sight) (pc := 68) dX5_sight_68 ok_X2_add ov_X2_add ln_X5_113 (c_Row_add u1.r7)
        · exact u1.r7.obj
        · rfl
        · rfl
        · rfl
        · rfl
        · rfl
        rintro w_68 ⟨g2, f2⟩
        rw [show va_up rs 6 (rs 6 ++ [d]) 7 = rs 7 from rfl, show rAdd 8 (rs 7) s = rs 7 ++ [s] from if_pos (by omega)] at g2
        have u2 := u1.upd 7 (by decide) rfl g2 f2
        have o2 := u2.obj
        have x2 := (f2 0 (by omega) (by omega)).trans x1
        refine V_aload_n (Y := mX5_sight) (pc := 71) dX5_sight_71 rfl ?_
        apply V_get (Y := mX5_sight) (pc := 72) dX5_sight_72 fl_X5_10
        · assumption
        · rfl
        apply V_get (Y := mX5_sight) (pc := 75) dX5_sight_75 fl_X5_234
        · assumption
        · rfl
        apply V_vR (Y := mX5_sight) (pc := 78) dX5_sight_78 ok_X2_size ov_X2_size ln_X5_109 (c_Row_size u2.r6)
        · exact u2.r6.obj
        · rfl
        · rfl
        · rfl
        · rfl
        · rfl
        refine V_iconst (Y := mX5_sight) (pc := 81) dX5_sight_81 ?_
        refine V_isub (Y := mX5_sight) (pc := 82) dX5_sight_82 ?_
        refine V_iret (Y := mX5_sight) (pc := 83) dX5_sight_83 rfl (Nat.le_of_ble_eq_true rfl) (Nat.le_of_ble_eq_true rfl) ?_
        have e : fSight (n, now, ca, po, fo, rs) d s = (((rs 6).length : Int), (n, now, ca, po, fo, va_up (va_up rs 6 (rs 6 ++ [d])) 7 (rs 7 ++ [s]))) := (if_neg (fun q => q ⟨h_8, h_19⟩)).trans (if_neg (by show ¬ 8 ≤ (rs 6).length; omega))
        rw [e]
        refine pI_of ⟨?_, XInv.tl0 ⟨x2, u2, (hK.keep (fun j a b => (f2 j (by omega) (by omega)).trans (f1 j (by omega) (by omega)))).rs rfl rfl rfl rfl, hr.keep (fun j a b => (f2 j (by omega) (by omega)).trans (f1 j (by omega) (by omega))) (fun j a b => (f2 j (by omega) (by omega)).trans (f1 j (by omega) (by omega)))⟩ ?_, fun j hj => (f2 j (by omega) (by omega)).trans (f1 j (by omega) (by omega))⟩
        · show ((rs 6 ++ [d]).length : Int) - 1 = _
          rw [List.length_append]; simp
        · show -1 ≤ ((rs 6 ++ [d]).length : Int) - 1
          rw [List.length_append]; omega
      · refine V_aload_n (Y := mX5_sight) (pc := 42) dX5_sight_42 rfl ?_
        refine V_bipush (Y := mX5_sight) (pc := 43) dX5_sight_43 ⟨by decide, by decide⟩ ?_
        apply V_vI (Y := mX5_sight) (pc := 45) dX5_sight_45 ok_X5_counted ov_X5_counted ln_X5_85 (c_told (z := -4) ho ⟨by omega, by omega⟩)
        · assumption
        · rfl
        · rfl
        · rfl
        · rfl
        · rfl
        rintro z_45 w_45 ⟨hz2, g3, f3⟩
        subst hz2
        refine V_iret (Y := mX5_sight) (pc := 48) dX5_sight_48 rfl (Nat.le_of_ble_eq_true rfl) (Nat.le_of_ble_eq_true rfl) ?_
        rw [show fSight (n, now, ca, po, fo, rs) d s = (-4, (n, now, ca, po, fo, rs)) from (if_neg (fun q => q ⟨h_8, h_19⟩)).trans (if_pos (by show 8 ≤ (rs 6).length; omega))]
        exact pI_of ⟨rfl, XInv.told hr hW hK (fun j hj => rfl) g3 f3⟩
    · refine V_aload_n (Y := mX5_sight) (pc := 22) dX5_sight_22 rfl ?_
      refine V_bipush (Y := mX5_sight) (pc := 23) dX5_sight_23 ⟨by decide, by decide⟩ ?_
      apply V_vI (Y := mX5_sight) (pc := 25) dX5_sight_25 ok_X5_counted ov_X5_counted ln_X5_85 (c_told (z := -2) ho ⟨by omega, by omega⟩)
      · assumption
      · rfl
      · rfl
      · rfl
      · rfl
      · rfl
      rintro z_25 w_25 ⟨hz2, g3, f3⟩
      subst hz2
      refine V_iret (Y := mX5_sight) (pc := 28) dX5_sight_28 rfl (Nat.le_of_ble_eq_true rfl) (Nat.le_of_ble_eq_true rfl) ?_
      rw [show fSight (n, now, ca, po, fo, rs) d s = (-2, (n, now, ca, po, fo, rs)) from if_pos (fun q => by first | exact h_8 q.1 | exact h_19 q.2)]
      exact pI_of ⟨rfl, XInv.told hr hW hK (fun j hj => rfl) g3 f3⟩
set_option maxRecDepth 100000 in
theorem cx_none {a : Int} (h : XInv w (n, now, ca, po, fo, rs) S0 S1 k0 k1 tx rb rn rf) (ha : inR a) : Ctr mX5_none (rm 3) [.ref 0, vI a] nn w (pI (fun z w' => z = (fNone (n, now, ca, po, fo, rs) a).1 ∧ XInv w' (fNone (n, now, ca, po, fo, rs) a).2 S0 S1 k0 k1 tx (tl1 (-2) z rb) (tl1 (-3) z rn) (tl1 (-4) z rf) ∧ frX w w') nn) := by
  refine Ctr_of (lv := [some (.ref 0), some (vI a), none]) (by decide +kernel) rfl rfl ?_
  obtain ⟨ho, hW, hK, hr⟩ := h
  have oW := hW.obj
  refine V_iload_n (Y := mX5_none) (pc := 0) dX5_none_0 rfl ?_
  refine V_if_lt (tgt := 9) (Y := mX5_none) (pc := 1) dX5_none_1 (by decide) ⟨by omega, by omega⟩ (fun h_1 => ?_) (fun h_1 => ?_)
  · refine V_aload_n (Y := mX5_none) (pc := 9) dX5_none_9 rfl ?_
    refine V_bipush (Y := mX5_none) (pc := 10) dX5_none_10 ⟨by decide, by decide⟩ ?_
    apply V_vI (Y := mX5_none) (pc := 12) dX5_none_12 ok_X5_counted ov_X5_counted ln_X5_85 (c_told (z := -2) ho ⟨by omega, by omega⟩)
    · assumption
    · rfl
    · rfl
    · rfl
    · rfl
    · rfl
    rintro z_12 w_12 ⟨hz2, g3, f3⟩
    subst hz2
    refine V_iret (Y := mX5_none) (pc := 15) dX5_none_15 rfl (Nat.le_of_ble_eq_true rfl) (Nat.le_of_ble_eq_true rfl) ?_
    rw [show fNone (n, now, ca, po, fo, rs) a = (-2, (n, now, ca, po, fo, rs)) from if_pos (by omega)]
    exact pI_of ⟨rfl, XInv.told hr hW hK (fun j hj => rfl) g3 f3⟩
  · refine V_iload_n (Y := mX5_none) (pc := 4) dX5_none_4 rfl ?_
    refine V_iconst (Y := mX5_none) (pc := 5) dX5_none_5 ?_
    refine V_icmp_le (tgt := 16) (Y := mX5_none) (pc := 6) dX5_none_6 (by decide) ⟨by omega, by omega⟩ ⟨by omega, by omega⟩ (fun h_6 => ?_) (fun h_6 => ?_)
    · refine V_iload_n (Y := mX5_none) (pc := 16) dX5_none_16 rfl ?_
      refine V_if_ne (tgt := 33) (Y := mX5_none) (pc := 17) dX5_none_17 (by decide) ⟨by omega, by omega⟩ (fun h_17 => ?_) (fun h_17 => ?_)
      · refine V_aload_n (Y := mX5_none) (pc := 33) dX5_none_33 rfl ?_
        apply V_get (Y := mX5_none) (pc := 34) dX5_none_34 fl_X5_10
        · assumption
        · rfl
        apply V_get (Y := mX5_none) (pc := 37) dX5_none_37 fl_X5_234
        · assumption
        · rfl
        apply V_vR (Y := mX5_none) (pc := 40) dX5_none_40 ok_X2_size ov_X2_size ln_X5_109 (c_Row_size hW.r6)
        · exact hW.r6.obj
        · rfl
        · rfl
        · rfl
        · rfl
        · rfl
        refine V_istore_n (Y := mX5_none) (pc := 43) dX5_none_43 rfl ?_
        refine V_iload_n (Y := mX5_none) (pc := 44) dX5_none_44 rfl ?_
        refine V_if_ne (tgt := 61) (Y := mX5_none) (pc := 45) dX5_none_45 (by decide) ⟨by omega, by omega⟩ (fun h_45 => ?_) (fun h_45 => ?_)
        · refine V_aload_n (Y := mX5_none) (pc := 61) dX5_none_61 rfl ?_
          apply V_get (Y := mX5_none) (pc := 62) dX5_none_62 fl_X5_10
          · assumption
          · rfl
          apply V_get (Y := mX5_none) (pc := 65) dX5_none_65 fl_X5_234
          · assumption
          · rfl
          apply V_vV (Y := mX5_none) (pc := 68) dX5_none_68 ok_X2_drop ov_X2_drop ln_X5_116 (c_Row_drop hW.r6)
          · exact hW.r6.obj
          · rfl
          · rfl
          · rfl
          · rfl
          · rfl
          rintro w_68 ⟨g1, f1⟩
          have u1 := hW.upd 6 (by decide) rfl g1 f1
          have o1 := u1.obj
          have x1 := (f1 0 (by omega) (by omega)).trans ho
          refine V_aload_n (Y := mX5_none) (pc := 71) dX5_none_71 rfl ?_
          apply V_get (Y := mX5_none) (pc := 72) dX5_none_72 fl_X5_10
          · assumption
          · rfl
          apply V_get (Y := mX5_none) (pc := 75) dX5_none_75 fl_X5_237
          · assumption
          · rfl
          apply V_vV (Y := mX5_none) (pc := 78) dX5_none_78 ok_X2_drop ov_X2_drop ln_X5_116 (c_Row_drop u1.r7)
          · exact u1.r7.obj
          · rfl
          · rfl
          · rfl
          · rfl
          · rfl
          rintro w_78 ⟨g2, f2⟩
          have u2 := u1.upd 7 (by decide) rfl g2 f2
          have x2 := (f2 0 (by omega) (by omega)).trans x1
          refine V_iload_n (Y := mX5_none) (pc := 81) dX5_none_81 rfl ?_
          refine V_iret (Y := mX5_none) (pc := 82) dX5_none_82 rfl (Nat.le_of_ble_eq_true rfl) (Nat.le_of_ble_eq_true rfl) ?_
          first
            | (exfalso; omega)
            | (rw [show fNone (n, now, ca, po, fo, rs) a = (((rs 6).length : Int), (n, now, ca, po, fo, va_up (va_up rs 6 []) 7 [])) from (if_neg (by omega)).trans (if_neg (by omega))]
               exact pI_of ⟨rfl, XInv.tl0 ⟨x2, u2, (hK.keep (fun j a b => (f2 j (by omega) (by omega)).trans (f1 j (by omega) (by omega)))).rs rfl rfl rfl rfl, hr.keep (fun j a b => (f2 j (by omega) (by omega)).trans (f1 j (by omega) (by omega))) (fun j a b => (f2 j (by omega) (by omega)).trans (f1 j (by omega) (by omega)))⟩ (by omega), fun j hj => (f2 j (by omega) (by omega)).trans (f1 j (by omega) (by omega))⟩)
            | (rw [show fNone (n, now, ca, po, fo, rs) a = (((rs 5).length : Int), (n, now, ca, po, fo, va_up rs 5 [])) from (if_neg (by omega)).trans (if_pos (by omega))]
               exact pI_of ⟨rfl, XInv.tl0 ⟨x1, u1, (hK.keep (fun j a b => f1 j (by omega) (by omega))).rs rfl rfl rfl rfl, hr.keep (fun j a b => f1 j (by omega) (by omega)) (fun j a b => f1 j (by omega) (by omega))⟩ (by omega), fun j hj => f1 j (by omega) (by omega)⟩)
        · refine V_aload_n (Y := mX5_none) (pc := 48) dX5_none_48 rfl ?_
          apply V_get (Y := mX5_none) (pc := 49) dX5_none_49 fl_X5_10
          · assumption
          · rfl
          apply V_get (Y := mX5_none) (pc := 52) dX5_none_52 fl_X5_240
          · assumption
          · rfl
          apply V_vV (Y := mX5_none) (pc := 55) dX5_none_55 ok_X2_drop ov_X2_drop ln_X5_116 (c_Row_drop hW.r5)
          · exact hW.r5.obj
          · rfl
          · rfl
          · rfl
          · rfl
          · rfl
          rintro w_55 ⟨g1, f1⟩
          have u1 := hW.upd 5 (by decide) rfl g1 f1
          have x1 := (f1 0 (by omega) (by omega)).trans ho
          refine V_goto (tgt := 81) (Y := mX5_none) (pc := 58) dX5_none_58 (by decide) ?_
          refine V_iload_n (Y := mX5_none) (pc := 81) dX5_none_81 rfl ?_
          refine V_iret (Y := mX5_none) (pc := 82) dX5_none_82 rfl (Nat.le_of_ble_eq_true rfl) (Nat.le_of_ble_eq_true rfl) ?_
          first
            | (exfalso; omega)
            | (rw [show fNone (n, now, ca, po, fo, rs) a = (((rs 6).length : Int), (n, now, ca, po, fo, va_up (va_up rs 6 []) 7 [])) from (if_neg (by omega)).trans (if_neg (by omega))]
               exact pI_of ⟨rfl, XInv.tl0 ⟨x2, u2, (hK.keep (fun j a b => (f2 j (by omega) (by omega)).trans (f1 j (by omega) (by omega)))).rs rfl rfl rfl rfl, hr.keep (fun j a b => (f2 j (by omega) (by omega)).trans (f1 j (by omega) (by omega))) (fun j a b => (f2 j (by omega) (by omega)).trans (f1 j (by omega) (by omega)))⟩ (by omega), fun j hj => (f2 j (by omega) (by omega)).trans (f1 j (by omega) (by omega))⟩)
            | (rw [show fNone (n, now, ca, po, fo, rs) a = (((rs 5).length : Int), (n, now, ca, po, fo, va_up rs 5 [])) from (if_neg (by omega)).trans (if_pos (by omega))]
               exact pI_of ⟨rfl, XInv.tl0 ⟨x1, u1, (hK.keep (fun j a b => f1 j (by omega) (by omega))).rs rfl rfl rfl rfl, hr.keep (fun j a b => f1 j (by omega) (by omega)) (fun j a b => f1 j (by omega) (by omega))⟩ (by omega), fun j hj => f1 j (by omega) (by omega)⟩)
      · refine V_aload_n (Y := mX5_none) (pc := 20) dX5_none_20 rfl ?_
        apply V_get (Y := mX5_none) (pc := 21) dX5_none_21 fl_X5_10
        · assumption
        · rfl
        apply V_get (Y := mX5_none) (pc := 24) dX5_none_24 fl_X5_240
        · assumption
        · rfl
        apply V_vR (Y := mX5_none) (pc := 27) dX5_none_27 ok_X2_size ov_X2_size ln_X5_109 (c_Row_size hW.r5)
        · exact hW.r5.obj
        · rfl
        · rfl
        · rfl
        · rfl
        · rfl
        refine V_goto (tgt := 43) (Y := mX5_none) (pc := 30) dX5_none_30 (by decide) ?_
        refine V_istore_n (Y := mX5_none) (pc := 43) dX5_none_43 rfl ?_
        refine V_iload_n (Y := mX5_none) (pc := 44) dX5_none_44 rfl ?_
        refine V_if_ne (tgt := 61) (Y := mX5_none) (pc := 45) dX5_none_45 (by decide) ⟨by omega, by omega⟩ (fun h_45 => ?_) (fun h_45 => ?_)
        · refine V_aload_n (Y := mX5_none) (pc := 61) dX5_none_61 rfl ?_
          apply V_get (Y := mX5_none) (pc := 62) dX5_none_62 fl_X5_10
          · assumption
          · rfl
          apply V_get (Y := mX5_none) (pc := 65) dX5_none_65 fl_X5_234
          · assumption
          · rfl
          apply V_vV (Y := mX5_none) (pc := 68) dX5_none_68 ok_X2_drop ov_X2_drop ln_X5_116 (c_Row_drop hW.r6)
          · exact hW.r6.obj
          · rfl
          · rfl
          · rfl
          · rfl
          · rfl
          rintro w_68 ⟨g1, f1⟩
          have u1 := hW.upd 6 (by decide) rfl g1 f1
          have o1 := u1.obj
          have x1 := (f1 0 (by omega) (by omega)).trans ho
          refine V_aload_n (Y := mX5_none) (pc := 71) dX5_none_71 rfl ?_
          apply V_get (Y := mX5_none) (pc := 72) dX5_none_72 fl_X5_10
          · assumption
          · rfl
          apply V_get (Y := mX5_none) (pc := 75) dX5_none_75 fl_X5_237
          · assumption
          · rfl
          apply V_vV (Y := mX5_none) (pc := 78) dX5_none_78 ok_X2_drop ov_X2_drop ln_X5_116 (c_Row_drop u1.r7)
          · exact u1.r7.obj
          · rfl
          · rfl
          · rfl
          · rfl
          · rfl
          rintro w_78 ⟨g2, f2⟩
          have u2 := u1.upd 7 (by decide) rfl g2 f2
          have x2 := (f2 0 (by omega) (by omega)).trans x1
          refine V_iload_n (Y := mX5_none) (pc := 81) dX5_none_81 rfl ?_
          refine V_iret (Y := mX5_none) (pc := 82) dX5_none_82 rfl (Nat.le_of_ble_eq_true rfl) (Nat.le_of_ble_eq_true rfl) ?_
          first
            | (exfalso; omega)
            | (rw [show fNone (n, now, ca, po, fo, rs) a = (((rs 6).length : Int), (n, now, ca, po, fo, va_up (va_up rs 6 []) 7 [])) from (if_neg (by omega)).trans (if_neg (by omega))]
               exact pI_of ⟨rfl, XInv.tl0 ⟨x2, u2, (hK.keep (fun j a b => (f2 j (by omega) (by omega)).trans (f1 j (by omega) (by omega)))).rs rfl rfl rfl rfl, hr.keep (fun j a b => (f2 j (by omega) (by omega)).trans (f1 j (by omega) (by omega))) (fun j a b => (f2 j (by omega) (by omega)).trans (f1 j (by omega) (by omega)))⟩ (by omega), fun j hj => (f2 j (by omega) (by omega)).trans (f1 j (by omega) (by omega))⟩)
            | (rw [show fNone (n, now, ca, po, fo, rs) a = (((rs 5).length : Int), (n, now, ca, po, fo, va_up rs 5 [])) from (if_neg (by omega)).trans (if_pos (by omega))]
               exact pI_of ⟨rfl, XInv.tl0 ⟨x1, u1, (hK.keep (fun j a b => f1 j (by omega) (by omega))).rs rfl rfl rfl rfl, hr.keep (fun j a b => f1 j (by omega) (by omega)) (fun j a b => f1 j (by omega) (by omega))⟩ (by omega), fun j hj => f1 j (by omega) (by omega)⟩)
        · refine V_aload_n (Y := mX5_none) (pc := 48) dX5_none_48 rfl ?_
          apply V_get (Y := mX5_none) (pc := 49) dX5_none_49 fl_X5_10
          · assumption
          · rfl
          apply V_get (Y := mX5_none) (pc := 52) dX5_none_52 fl_X5_240
          · assumption
          · rfl
          apply V_vV (Y := mX5_none) (pc := 55) dX5_none_55 ok_X2_drop ov_X2_drop ln_X5_116 (c_Row_drop hW.r5)
          · exact hW.r5.obj
          · rfl
          · rfl
          · rfl
          · rfl
          · rfl
          rintro w_55 ⟨g1, f1⟩
          have u1 := hW.upd 5 (by decide) rfl g1 f1
          have x1 := (f1 0 (by omega) (by omega)).trans ho
          refine V_goto (tgt := 81) (Y := mX5_none) (pc := 58) dX5_none_58 (by decide) ?_
          refine V_iload_n (Y := mX5_none) (pc := 81) dX5_none_81 rfl ?_
          refine V_iret (Y := mX5_none) (pc := 82) dX5_none_82 rfl (Nat.le_of_ble_eq_true rfl) (Nat.le_of_ble_eq_true rfl) ?_
          first
            | (exfalso; omega)
            | (rw [show fNone (n, now, ca, po, fo, rs) a = (((rs 6).length : Int), (n, now, ca, po, fo, va_up (va_up rs 6 []) 7 [])) from (if_neg (by omega)).trans (if_neg (by omega))]
               exact pI_of ⟨rfl, XInv.tl0 ⟨x2, u2, (hK.keep (fun j a b => (f2 j (by omega) (by omega)).trans (f1 j (by omega) (by omega)))).rs rfl rfl rfl rfl, hr.keep (fun j a b => (f2 j (by omega) (by omega)).trans (f1 j (by omega) (by omega))) (fun j a b => (f2 j (by omega) (by omega)).trans (f1 j (by omega) (by omega)))⟩ (by omega), fun j hj => (f2 j (by omega) (by omega)).trans (f1 j (by omega) (by omega))⟩)
            | (rw [show fNone (n, now, ca, po, fo, rs) a = (((rs 5).length : Int), (n, now, ca, po, fo, va_up rs 5 [])) from (if_neg (by omega)).trans (if_pos (by omega))]
               exact pI_of ⟨rfl, XInv.tl0 ⟨x1, u1, (hK.keep (fun j a b => f1 j (by omega) (by omega))).rs rfl rfl rfl rfl, hr.keep (fun j a b => f1 j (by omega) (by omega)) (fun j a b => f1 j (by omega) (by omega))⟩ (by omega), fun j hj => f1 j (by omega) (by omega)⟩)
    · refine V_aload_n (Y := mX5_none) (pc := 9) dX5_none_9 rfl ?_
      refine V_bipush (Y := mX5_none) (pc := 10) dX5_none_10 ⟨by decide, by decide⟩ ?_
      apply V_vI (Y := mX5_none) (pc := 12) dX5_none_12 ok_X5_counted ov_X5_counted ln_X5_85 (c_told (z := -2) ho ⟨by omega, by omega⟩)
      · assumption
      · rfl
      · rfl
      · rfl
      · rfl
      · rfl
      rintro z_12 w_12 ⟨hz2, g3, f3⟩
      subst hz2
      refine V_iret (Y := mX5_none) (pc := 15) dX5_none_15 rfl (Nat.le_of_ble_eq_true rfl) (Nat.le_of_ble_eq_true rfl) ?_
      rw [show fNone (n, now, ca, po, fo, rs) a = (-2, (n, now, ca, po, fo, rs)) from if_pos (by omega)]
      exact pI_of ⟨rfl, XInv.told hr hW hK (fun j hj => rfl) g3 f3⟩
set_option maxRecDepth 100000 in
theorem c_countOf {a : Int} (h : XInv w (n, now, ca, po, fo, rs) S0 S1 k0 k1 tx rb rn rf) (ha : a = 0 ∨ a = 1 ∨ a = 2 ∨ a = 3 ∨ a = 4 ∨ a = 5 ∨ a = 6) : Ctr mX5_countOf (rm 1) [.ref 0, vI a] nn w (pR (vI (cntOf (n, now, ca, po, fo, rs) tx a)) nn w) := by
  refine Ctr_of (lv := [some (.ref 0), some (vI a)]) (by decide +kernel) rfl rfl ?_
  obtain ⟨ho, hW, hK, hr⟩ := h
  have oW := hW.obj
  have hr4 := hr.2.2.2.1
  refine V_iload_n (Y := mX5_countOf) (pc := 0) dX5_countOf_0 rfl ?_
  rcases (ha) with e_1 | e_1 | e_1 | e_1 | e_1 | e_1 | e_1
  · rw [e_1]
    refine V_tableIn (off := 39) (tgt := 40) (Y := mX5_countOf) (pc := 1) dX5_countOf_1 ⟨by decide, by decide⟩ (by decide) (by decide) rfl (by decide) ?_
    refine V_aload_n (Y := mX5_countOf) (pc := 40) dX5_countOf_40 rfl ?_
    apply V_get (Y := mX5_countOf) (pc := 41) dX5_countOf_41 fl_X5_10
    · assumption
    · rfl
    apply V_get (Y := mX5_countOf) (pc := 44) dX5_countOf_44 fl_X5_199
    · assumption
    · rfl
    refine V_iret (Y := mX5_countOf) (pc := 47) dX5_countOf_47 rfl (Nat.le_of_ble_eq_true rfl) (Nat.le_of_ble_eq_true rfl) ?_
    exact pR_I rfl
  · rw [e_1]
    refine V_tableIn (off := 47) (tgt := 48) (Y := mX5_countOf) (pc := 1) dX5_countOf_1 ⟨by decide, by decide⟩ (by decide) (by decide) rfl (by decide) ?_
    refine V_aload_n (Y := mX5_countOf) (pc := 48) dX5_countOf_48 rfl ?_
    apply V_get (Y := mX5_countOf) (pc := 49) dX5_countOf_49 fl_X5_10
    · assumption
    · rfl
    apply V_get (Y := mX5_countOf) (pc := 52) dX5_countOf_52 fl_X5_182
    · assumption
    · rfl
    apply V_vR (Y := mX5_countOf) (pc := 55) dX5_countOf_55 ok_X2_size ov_X2_size ln_X5_109 (c_Row_size hW.r1)
    · exact hW.r1.obj
    · rfl
    · rfl
    · rfl
    · rfl
    · rfl
    refine V_iret (Y := mX5_countOf) (pc := 58) dX5_countOf_58 rfl (Nat.le_of_ble_eq_true rfl) (Nat.le_of_ble_eq_true rfl) ?_
    exact pR_I rfl
  · rw [e_1]
    refine V_tableIn (off := 58) (tgt := 59) (Y := mX5_countOf) (pc := 1) dX5_countOf_1 ⟨by decide, by decide⟩ (by decide) (by decide) rfl (by decide) ?_
    refine V_aload_n (Y := mX5_countOf) (pc := 59) dX5_countOf_59 rfl ?_
    apply V_get (Y := mX5_countOf) (pc := 60) dX5_countOf_60 fl_X5_10
    · assumption
    · rfl
    apply V_get (Y := mX5_countOf) (pc := 63) dX5_countOf_63 fl_X5_240
    · assumption
    · rfl
    apply V_vR (Y := mX5_countOf) (pc := 66) dX5_countOf_66 ok_X2_size ov_X2_size ln_X5_109 (c_Row_size hW.r5)
    · exact hW.r5.obj
    · rfl
    · rfl
    · rfl
    · rfl
    · rfl
    refine V_iret (Y := mX5_countOf) (pc := 69) dX5_countOf_69 rfl (Nat.le_of_ble_eq_true rfl) (Nat.le_of_ble_eq_true rfl) ?_
    exact pR_I rfl
  · rw [e_1]
    refine V_tableIn (off := 69) (tgt := 70) (Y := mX5_countOf) (pc := 1) dX5_countOf_1 ⟨by decide, by decide⟩ (by decide) (by decide) rfl (by decide) ?_
    refine V_aload_n (Y := mX5_countOf) (pc := 70) dX5_countOf_70 rfl ?_
    apply V_get (Y := mX5_countOf) (pc := 71) dX5_countOf_71 fl_X5_10
    · assumption
    · rfl
    apply V_get (Y := mX5_countOf) (pc := 74) dX5_countOf_74 fl_X5_234
    · assumption
    · rfl
    apply V_vR (Y := mX5_countOf) (pc := 77) dX5_countOf_77 ok_X2_size ov_X2_size ln_X5_109 (c_Row_size hW.r6)
    · exact hW.r6.obj
    · rfl
    · rfl
    · rfl
    · rfl
    · rfl
    refine V_iret (Y := mX5_countOf) (pc := 80) dX5_countOf_80 rfl (Nat.le_of_ble_eq_true rfl) (Nat.le_of_ble_eq_true rfl) ?_
    exact pR_I rfl
  · rw [e_1]
    refine V_tableIn (off := 80) (tgt := 81) (Y := mX5_countOf) (pc := 1) dX5_countOf_1 ⟨by decide, by decide⟩ (by decide) (by decide) rfl (by decide) ?_
    refine V_aload_n (Y := mX5_countOf) (pc := 81) dX5_countOf_81 rfl ?_
    apply V_get (Y := mX5_countOf) (pc := 82) dX5_countOf_82 fl_X5_37
    · assumption
    · rfl
    apply V_vR (Y := mX5_countOf) (pc := 85) dX5_countOf_85 ok_X2_size ov_X2_size ln_X5_109 (c_Row_size hr4)
    · exact hr4.obj
    · rfl
    · rfl
    · rfl
    · rfl
    · rfl
    refine V_iret (Y := mX5_countOf) (pc := 88) dX5_countOf_88 rfl (Nat.le_of_ble_eq_true rfl) (Nat.le_of_ble_eq_true rfl) ?_
    exact pR_I rfl
  · rw [e_1]
    refine V_tableIn (off := 88) (tgt := 89) (Y := mX5_countOf) (pc := 1) dX5_countOf_1 ⟨by decide, by decide⟩ (by decide) (by decide) rfl (by decide) ?_
    refine V_aload_n (Y := mX5_countOf) (pc := 89) dX5_countOf_89 rfl ?_
    apply V_get (Y := mX5_countOf) (pc := 90) dX5_countOf_90 fl_X5_10
    · assumption
    · rfl
    apply V_get (Y := mX5_countOf) (pc := 93) dX5_countOf_93 fl_X5_148
    · assumption
    · rfl
    apply V_vR (Y := mX5_countOf) (pc := 96) dX5_countOf_96 ok_X2_size ov_X2_size ln_X5_109 (c_Row_size hW.r8)
    · exact hW.r8.obj
    · rfl
    · rfl
    · rfl
    · rfl
    · rfl
    refine V_iret (Y := mX5_countOf) (pc := 99) dX5_countOf_99 rfl (Nat.le_of_ble_eq_true rfl) (Nat.le_of_ble_eq_true rfl) ?_
    exact pR_I rfl
  · rw [e_1]
    refine V_tableOut (tgt := 100) (Y := mX5_countOf) (pc := 1) dX5_countOf_1 ⟨by decide, by decide⟩ (by decide) (by decide) ?_
    refine V_aload_n (Y := mX5_countOf) (pc := 100) dX5_countOf_100 rfl ?_
    apply V_get (Y := mX5_countOf) (pc := 101) dX5_countOf_101 fl_X5_10
    · assumption
    · rfl
    apply V_get (Y := mX5_countOf) (pc := 104) dX5_countOf_104 fl_X5_141
    · assumption
    · rfl
    refine V_iret (Y := mX5_countOf) (pc := 107) dX5_countOf_107 rfl (Nat.le_of_ble_eq_true rfl) (Nat.le_of_ble_eq_true rfl) ?_
    exact pR_I rfl
theorem cntOf_rng (h : XInv w (n, now, ca, po, fo, rs) S0 S1 k0 k1 tx rb rn rf) (hn : 2 ≤ n ∧ n ≤ 7) (hnow : isS n now) (a : Int) : 0 ≤ cntOf (n, now, ca, po, fo, rs) tx a ∧ cntOf (n, now, ca, po, fo, rs) tx a ≤ 20000 := by
  have l1 := h.2.1.r1.len
  have l5 := h.2.1.r5.len
  have l6 := h.2.1.r6.len
  have l8 := h.2.1.r8.len
  have lt := h.2.2.2.2.2.2.1.len
  have hp := p3_le n.toNat (by omega)
  unfold cntOf
  dsimp only
  repeat' split
  all_goals omega
set_option maxRecDepth 100000 in
theorem cx_count {a : Int} (h : XInv w (n, now, ca, po, fo, rs) S0 S1 k0 k1 tx rb rn rf) (hG : vGood (n, now, ca, po, fo, rs)) (ha : inR a) : Ctr mX5_count (rm 3) [.ref 0, vI a] nn w (pI (fun z w' => z = fCount (n, now, ca, po, fo, rs) tx a ∧ XInv w' (n, now, ca, po, fo, rs) S0 S1 k0 k1 tx (tl1 (-2) z rb) (tl1 (-3) z rn) (tl1 (-4) z rf) ∧ frX w w') nn) := by
  refine Ctr_of (lv := [some (.ref 0), some (vI a)]) (by decide +kernel) rfl rfl ?_
  have h0 := h
  obtain ⟨hn, hnow, hca, hpo, hfo, hgd, hcv, hor, hsg, hpast⟩ := hG.un
  have hrg := cntOf_rng h0 hn hnow a
  obtain ⟨ho, hW, hK, hr⟩ := h
  refine V_iload_n (Y := mX5_count) (pc := 0) dX5_count_0 rfl ?_
  refine V_if_lt (tgt := 10) (Y := mX5_count) (pc := 1) dX5_count_1 (by decide) ⟨by omega, by omega⟩ (fun h_1 => ?_) (fun h_1 => ?_)
  · refine V_aload_n (Y := mX5_count) (pc := 10) dX5_count_10 rfl ?_
    refine V_bipush (Y := mX5_count) (pc := 11) dX5_count_11 ⟨by decide, by decide⟩ ?_
    apply V_vI (Y := mX5_count) (pc := 13) dX5_count_13 ok_X5_counted ov_X5_counted ln_X5_85 (c_told (z := -2) ho ⟨by omega, by omega⟩)
    · assumption
    · rfl
    · rfl
    · rfl
    · rfl
    · rfl
    rintro z_13 w_13 ⟨hz2, g3, f3⟩
    subst hz2
    refine V_iret (Y := mX5_count) (pc := 16) dX5_count_16 rfl (Nat.le_of_ble_eq_true rfl) (Nat.le_of_ble_eq_true rfl) ?_
    rw [show fCount (n, now, ca, po, fo, rs) tx a = -2 from if_neg (by omega)]
    exact pI_of ⟨rfl, XInv.told hr hW hK (fun j hj => rfl) g3 f3⟩
  · refine V_iload_n (Y := mX5_count) (pc := 4) dX5_count_4 rfl ?_
    refine V_bipush (Y := mX5_count) (pc := 5) dX5_count_5 ⟨by decide, by decide⟩ ?_
    refine V_icmp_lt (tgt := 17) (Y := mX5_count) (pc := 7) dX5_count_7 (by decide) ⟨by omega, by omega⟩ ⟨by omega, by omega⟩ (fun h_7 => ?_) (fun h_7 => ?_)
    · refine V_aload_n (Y := mX5_count) (pc := 17) dX5_count_17 rfl ?_
      refine V_iload_n (Y := mX5_count) (pc := 18) dX5_count_18 rfl ?_
      apply V_vR (Y := mX5_count) (pc := 19) dX5_count_19 ok_X5_countOf ov_X5_countOf ln_X5_250 (c_countOf (a := a) h0 (by omega))
      · assumption
      · rfl
      · rfl
      · rfl
      · rfl
      · rfl
      refine V_iret (Y := mX5_count) (pc := 22) dX5_count_22 rfl (Nat.le_of_ble_eq_true rfl) (Nat.le_of_ble_eq_true rfl) ?_
      rw [show fCount (n, now, ca, po, fo, rs) tx a = cntOf (n, now, ca, po, fo, rs) tx a from if_pos (by omega)]
      exact pI_of ⟨rfl, h0.tl0 (by omega), frX.refl w⟩
    · refine V_aload_n (Y := mX5_count) (pc := 10) dX5_count_10 rfl ?_
      refine V_bipush (Y := mX5_count) (pc := 11) dX5_count_11 ⟨by decide, by decide⟩ ?_
      apply V_vI (Y := mX5_count) (pc := 13) dX5_count_13 ok_X5_counted ov_X5_counted ln_X5_85 (c_told (z := -2) ho ⟨by omega, by omega⟩)
      · assumption
      · rfl
      · rfl
      · rfl
      · rfl
      · rfl
      rintro z_13 w_13 ⟨hz2, g3, f3⟩
      subst hz2
      refine V_iret (Y := mX5_count) (pc := 16) dX5_count_16 rfl (Nat.le_of_ble_eq_true rfl) (Nat.le_of_ble_eq_true rfl) ?_
      rw [show fCount (n, now, ca, po, fo, rs) tx a = -2 from if_neg (by omega)]
      exact pI_of ⟨rfl, XInv.told hr hW hK (fun j hj => rfl) g3 f3⟩
end CLS
