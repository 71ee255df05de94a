/-! ===== DrawerWall: pulls, sights, counts ===== -/
theorem tl1_ne {k z r : Int} (h : z ≠ k) : tl1 k z r = r := if_neg h
theorem XInv.tl0 {w : vWd} {S S0 S1 : vSt} {k0 k1 rb rn rf z : Int} {tx : List Int} (h : XInv w S S0 S1 k0 k1 tx rb rn rf) (hz : -1 ≤ z) : XInv w S S0 S1 k0 k1 tx (tl1 (-2) z rb) (tl1 (-3) z rn) (tl1 (-4) z rf) := by
  rw [tl1_ne (by omega), tl1_ne (by omega), tl1_ne (by omega)]; exact h
theorem frX.refl (w : vWd) : frX w w := fun _ _ => rfl
def fPut (S : vSt) (a x : Int) : Int × vSt := if ¬ (0 ≤ a ∧ a ≤ 1 ∧ 0 ≤ x ∧ x < 128) then (-2, S) else if a = 0 then ((S.2.2.2.1 : Int), (S.1, S.2.1, S.2.2.1, x.toNat, S.2.2.2.2.1, S.2.2.2.2.2)) else ((S.2.2.2.2.1 : Int), (S.1, S.2.1, S.2.2.1, S.2.2.2.1, x.toNat, S.2.2.2.2.2))
noncomputable def fPull (S : vSt) (d : Int) : Int × vSt := if ¬ isD S.1 d then (-2, S) else (aft S.2.2.1 S.2.2.2.2.2 S.2.1 d (iI (-1)), (S.1, aft S.2.2.1 S.2.2.2.2.2 S.2.1 d (iI (-1)), S.2.2.1, S.2.2.2.1, S.2.2.2.2.1, va_up S.2.2.2.2.2 8 ((if 20 ≤ (S.2.2.2.2.2 8).length then (S.2.2.2.2.2 8).tail else S.2.2.2.2.2 8) ++ [S.2.1])))
def fUndo (S : vSt) : Int × vSt := if (S.2.2.2.2.2 8).length = 0 then (-3, S) else (rAt (S.2.2.2.2.2 8) ((S.2.2.2.2.2 8).length - 1), (S.1, rAt (S.2.2.2.2.2 8) ((S.2.2.2.2.2 8).length - 1), S.2.2.1, S.2.2.2.1, S.2.2.2.2.1, va_up S.2.2.2.2.2 8 (S.2.2.2.2.2 8).dropLast))
noncomputable def fBehind (S : vSt) (s d : Int) : Int := if ¬ (isS S.1 s ∧ isD S.1 d) then -2 else aft S.2.2.1 S.2.2.2.2.2 s d (iI (-1))
def fOut (S : vSt) (d : Int) : Int := if ¬ isD S.1 d then -2 else dg S.2.1 d.toNat
def fDanger (S : vSt) (s : Int) : Int := if ¬ isS S.1 s then -2 else bI (dgBits S.1 S.2.2.2.1 S.2.2.2.2.1 S.2.2.2.2.2 s ≠ 0)
def fSight (S : vSt) (d s : Int) : Int × vSt := if ¬ (isD S.1 d ∧ isS S.1 s) then (-2, S) else if 8 ≤ (S.2.2.2.2.2 6).length then (-4, S) else (((S.2.2.2.2.2 6).length : Int), (S.1, S.2.1, S.2.2.1, S.2.2.2.1, S.2.2.2.2.1, va_up (va_up S.2.2.2.2.2 6 (S.2.2.2.2.2 6 ++ [d])) 7 (S.2.2.2.2.2 7 ++ [s])))
def fNone (S : vSt) (a : Int) : Int × vSt := if ¬ (0 ≤ a ∧ a ≤ 1) then (-2, S) else if a = 0 then (((S.2.2.2.2.2 5).length : Int), (S.1, S.2.1, S.2.2.1, S.2.2.2.1, S.2.2.2.2.1, va_up S.2.2.2.2.2 5 [])) else (((S.2.2.2.2.2 6).length : Int), (S.1, S.2.1, S.2.2.1, S.2.2.2.1, S.2.2.2.2.1, va_up (va_up S.2.2.2.2.2 6 []) 7 []))
section CLS
variable {nn : Nat} {w : vWd} {n now : Int} {ca po fo : Nat} {rs : Nat → List Int} {S0 S1 : vSt} {k0 k1 rb rn rf : Int} {tx : List Int}
set_option maxRecDepth 100000 in
theorem cx_put {a x : Int} (h : XInv w (n, now, ca, po, fo, rs) S0 S1 k0 k1 tx rb rn rf) (ha : inR a) (hx : inR x) : Ctr mX5_put (rm 3) [.ref 0, vI a, vI x] nn w (pI (fun z w' => z = (fPut (n, now, ca, po, fo, rs) a x).1 ∧ XInv w' (fPut (n, now, ca, po, fo, rs) a x).2 S0 S1 k0 k1 tx (tl1 (-2) z rb) (tl1 (-3) z rn) (tl1 (-4) z rf) ∧ frX w w') nn) := by
  refine Ctr_of (lv := [some (.ref 0), some (vI a), some (vI x), none]) (by decide +kernel) rfl rfl ?_
  obtain ⟨ho, hW, hK, hr⟩ := h
  have oW := hW.obj
  refine V_iload_n (Y := mX5_put) (pc := 0) dX5_put_0 rfl ?_
  refine V_if_lt (tgt := 20) (Y := mX5_put) (pc := 1) dX5_put_1 (by decide) ⟨by omega, by omega⟩ (fun h_1 => ?_) (fun h_1 => ?_)
  · refine V_aload_n (Y := mX5_put) (pc := 20) dX5_put_20 rfl ?_
    refine V_bipush (Y := mX5_put) (pc := 21) dX5_put_21 ⟨by decide, by decide⟩ ?_
    apply V_vI (Y := mX5_put) (pc := 23) dX5_put_23 ok_X5_counted ov_X5_counted ln_X5_85 (c_told (z := -2) ho ⟨by omega, by omega⟩)
    · assumption
    · rfl
    · rfl
    · rfl
    · rfl
    · rfl
    rintro z_23 w_23 ⟨hz2, g3, f3⟩
    subst hz2
    refine V_iret (Y := mX5_put) (pc := 26) dX5_put_26 rfl (Nat.le_of_ble_eq_true rfl) (Nat.le_of_ble_eq_true rfl) ?_
    rw [show fPut (n, now, ca, po, fo, rs) a x = (-2, (n, now, ca, po, fo, rs)) from if_pos (by omega)]
    exact pI_of ⟨rfl, XInv.told hr hW hK (fun j hj => rfl) g3 f3⟩
  · refine V_iload_n (Y := mX5_put) (pc := 4) dX5_put_4 rfl ?_
    refine V_iconst (Y := mX5_put) (pc := 5) dX5_put_5 ?_
    refine V_icmp_gt (tgt := 20) (Y := mX5_put) (pc := 6) dX5_put_6 (by decide) ⟨by omega, by omega⟩ ⟨by omega, by omega⟩ (fun h_6 => ?_) (fun h_6 => ?_)
    · refine V_aload_n (Y := mX5_put) (pc := 20) dX5_put_20 rfl ?_
      refine V_bipush (Y := mX5_put) (pc := 21) dX5_put_21 ⟨by decide, by decide⟩ ?_
      apply V_vI (Y := mX5_put) (pc := 23) dX5_put_23 ok_X5_counted ov_X5_counted ln_X5_85 (c_told (z := -2) ho ⟨by omega, by omega⟩)
      · assumption
      · rfl
      · rfl
      · rfl
      · rfl
      · rfl
      rintro z_23 w_23 ⟨hz2, g3, f3⟩
      subst hz2
      refine V_iret (Y := mX5_put) (pc := 26) dX5_put_26 rfl (Nat.le_of_ble_eq_true rfl) (Nat.le_of_ble_eq_true rfl) ?_
      rw [show fPut (n, now, ca, po, fo, rs) a x = (-2, (n, now, ca, po, fo, rs)) from if_pos (by omega)]
      exact pI_of ⟨rfl, XInv.told hr hW hK (fun j hj => rfl) g3 f3⟩
    · refine V_iload_n (Y := mX5_put) (pc := 9) dX5_put_9 rfl ?_
      refine V_if_lt (tgt := 20) (Y := mX5_put) (pc := 10) dX5_put_10 (by decide) ⟨by omega, by omega⟩ (fun h_10 => ?_) (fun h_10 => ?_)
      · refine V_aload_n (Y := mX5_put) (pc := 20) dX5_put_20 rfl ?_
        refine V_bipush (Y := mX5_put) (pc := 21) dX5_put_21 ⟨by decide, by decide⟩ ?_
        apply V_vI (Y := mX5_put) (pc := 23) dX5_put_23 ok_X5_counted ov_X5_counted ln_X5_85 (c_told (z := -2) ho ⟨by omega, by omega⟩)
        · assumption
        · rfl
        · rfl
        · rfl
        · rfl
        · rfl
        rintro z_23 w_23 ⟨hz2, g3, f3⟩
        subst hz2
        refine V_iret (Y := mX5_put) (pc := 26) dX5_put_26 rfl (Nat.le_of_ble_eq_true rfl) (Nat.le_of_ble_eq_true rfl) ?_
        rw [show fPut (n, now, ca, po, fo, rs) a x = (-2, (n, now, ca, po, fo, rs)) from if_pos (by omega)]
        exact pI_of ⟨rfl, XInv.told hr hW hK (fun j hj => rfl) g3 f3⟩
      · refine V_iload_n (Y := mX5_put) (pc := 13) dX5_put_13 rfl ?_
        refine V_sipush (Y := mX5_put) (pc := 14) dX5_put_14 ⟨by decide, by decide⟩ ?_
        refine V_icmp_lt (tgt := 27) (Y := mX5_put) (pc := 17) dX5_put_17 (by decide) ⟨by omega, by omega⟩ ⟨by omega, by omega⟩ (fun h_17 => ?_) (fun h_17 => ?_)
        · refine V_iload_n (Y := mX5_put) (pc := 27) dX5_put_27 rfl ?_
          refine V_if_ne (tgt := 41) (Y := mX5_put) (pc := 28) dX5_put_28 (by decide) ⟨by omega, by omega⟩ (fun h_28 => ?_) (fun h_28 => ?_)
          · refine V_aload_n (Y := mX5_put) (pc := 41) dX5_put_41 rfl ?_
            apply V_get (Y := mX5_put) (pc := 42) dX5_put_42 fl_X5_10
            · assumption
            · rfl
            apply V_get (Y := mX5_put) (pc := 45) dX5_put_45 fl_X5_103
            · assumption
            · rfl
            refine V_istore_n (Y := mX5_put) (pc := 48) dX5_put_48 rfl ?_
            refine V_iload_n (Y := mX5_put) (pc := 49) dX5_put_49 rfl ?_
            refine V_if_ne (tgt := 64) (Y := mX5_put) (pc := 50) dX5_put_50 (by decide) ⟨by omega, by omega⟩ (fun h_50 => ?_) (fun h_50 => ?_)
            · refine V_aload_n (Y := mX5_put) (pc := 64) dX5_put_64 rfl ?_
              apply V_get (Y := mX5_put) (pc := 65) dX5_put_65 fl_X5_10
              · assumption
              · rfl
              refine V_iload_n (Y := mX5_put) (pc := 68) dX5_put_68 rfl ?_
              apply V_putiW (Y := mX5_put) (pc := 69) dX5_put_69 fl_X5_103
              · assumption
              · exact Nat.le_of_ble_eq_true rfl
              intro w_69 h_69 f_69
              simp only [List.set_cons_zero, List.set_cons_succ] at h_69
              refine V_iload_n (Y := mX5_put) (pc := 72) dX5_put_72 rfl ?_
              refine V_iret (Y := mX5_put) (pc := 73) dX5_put_73 rfl (Nat.le_of_ble_eq_true rfl) (Nat.le_of_ble_eq_true rfl) ?_
              first
                | (exfalso; omega)
                | (rw [show fPut (n, now, ca, po, fo, rs) a x = ((po : Int), (n, now, ca, x.toNat, fo, rs)) from (if_neg (by omega)).trans (if_pos h_28)]
                   have hxx : ((x.toNat : Nat) : Int) = x := by omega
                   rw [← hxx] at h_58
                   exact pI_of ⟨rfl, XInv.tl0 ⟨(f_58 0 (by omega)).trans ho, hW.fld h_58 f_58, hK.keep (fun j a b => f_58 j (by omega)), hr.keep (fun j a b => f_58 j (by omega)) (fun j a b => f_58 j (by omega))⟩ (by omega), fun j hj => f_58 j (by omega)⟩)
                | (rw [show fPut (n, now, ca, po, fo, rs) a x = ((fo : Int), (n, now, ca, po, x.toNat, rs)) from (if_neg (by omega)).trans (if_neg h_28)]
                   have hxx : ((x.toNat : Nat) : Int) = x := by omega
                   rw [← hxx] at h_69
                   exact pI_of ⟨rfl, XInv.tl0 ⟨(f_69 0 (by omega)).trans ho, hW.fld h_69 f_69, hK.keep (fun j a b => f_69 j (by omega)), hr.keep (fun j a b => f_69 j (by omega)) (fun j a b => f_69 j (by omega))⟩ (by omega), fun j hj => f_69 j (by omega)⟩)
            · refine V_aload_n (Y := mX5_put) (pc := 53) dX5_put_53 rfl ?_
              apply V_get (Y := mX5_put) (pc := 54) dX5_put_54 fl_X5_10
              · assumption
              · rfl
              refine V_iload_n (Y := mX5_put) (pc := 57) dX5_put_57 rfl ?_
              apply V_putiW (Y := mX5_put) (pc := 58) dX5_put_58 fl_X5_100
              · assumption
              · exact Nat.le_of_ble_eq_true rfl
              intro w_58 h_58 f_58
              simp only [List.set_cons_zero, List.set_cons_succ] at h_58
              refine V_goto (tgt := 72) (Y := mX5_put) (pc := 61) dX5_put_61 (by decide) ?_
              refine V_iload_n (Y := mX5_put) (pc := 72) dX5_put_72 rfl ?_
              refine V_iret (Y := mX5_put) (pc := 73) dX5_put_73 rfl (Nat.le_of_ble_eq_true rfl) (Nat.le_of_ble_eq_true rfl) ?_
              first
                | (exfalso; omega)
                | (rw [show fPut (n, now, ca, po, fo, rs) a x = ((po : Int), (n, now, ca, x.toNat, fo, rs)) from (if_neg (by omega)).trans (if_pos h_28)]
                   have hxx : ((x.toNat : Nat) : Int) = x := by omega
                   rw [← hxx] at h_58
                   exact pI_of ⟨rfl, XInv.tl0 ⟨(f_58 0 (by omega)).trans ho, hW.fld h_58 f_58, hK.keep (fun j a b => f_58 j (by omega)), hr.keep (fun j a b => f_58 j (by omega)) (fun j a b => f_58 j (by omega))⟩ (by omega), fun j hj => f_58 j (by omega)⟩)
                | (rw [show fPut (n, now, ca, po, fo, rs) a x = ((fo : Int), (n, now, ca, po, x.toNat, rs)) from (if_neg (by omega)).trans (if_neg h_28)]
                   have hxx : ((x.toNat : Nat) : Int) = x := by omega
                   rw [← hxx] at h_69
                   exact pI_of ⟨rfl, XInv.tl0 ⟨(f_69 0 (by omega)).trans ho, hW.fld h_69 f_69, hK.keep (fun j a b => f_69 j (by omega)), hr.keep (fun j a b => f_69 j (by omega)) (fun j a b => f_69 j (by omega))⟩ (by omega), fun j hj => f_69 j (by omega)⟩)
          · refine V_aload_n (Y := mX5_put) (pc := 31) dX5_put_31 rfl ?_
            apply V_get (Y := mX5_put) (pc := 32) dX5_put_32 fl_X5_10
            · assumption
            · rfl
            apply V_get (Y := mX5_put) (pc := 35) dX5_put_35 fl_X5_100
            · assumption
            · rfl
            refine V_goto (tgt := 48) (Y := mX5_put) (pc := 38) dX5_put_38 (by decide) ?_
            refine V_istore_n (Y := mX5_put) (pc := 48) dX5_put_48 rfl ?_
            refine V_iload_n (Y := mX5_put) (pc := 49) dX5_put_49 rfl ?_
            refine V_if_ne (tgt := 64) (Y := mX5_put) (pc := 50) dX5_put_50 (by decide) ⟨by omega, by omega⟩ (fun h_50 => ?_) (fun h_50 => ?_)
            · refine V_aload_n (Y := mX5_put) (pc := 64) dX5_put_64 rfl ?_
              apply V_get (Y := mX5_put) (pc := 65) dX5_put_65 fl_X5_10
              · assumption
              · rfl
              refine V_iload_n (Y := mX5_put) (pc := 68) dX5_put_68 rfl ?_
              apply V_putiW (Y := mX5_put) (pc := 69) dX5_put_69 fl_X5_103
              · assumption
              · exact Nat.le_of_ble_eq_true rfl
              intro w_69 h_69 f_69
              simp only [List.set_cons_zero, List.set_cons_succ] at h_69
              refine V_iload_n (Y := mX5_put) (pc := 72) dX5_put_72 rfl ?_
              refine V_iret (Y := mX5_put) (pc := 73) dX5_put_73 rfl (Nat.le_of_ble_eq_true rfl) (Nat.le_of_ble_eq_true rfl) ?_
              first
                | (exfalso; omega)
                | (rw [show fPut (n, now, ca, po, fo, rs) a x = ((po : Int), (n, now, ca, x.toNat, fo, rs)) from (if_neg (by omega)).trans (if_pos h_28)]
                   have hxx : ((x.toNat : Nat) : Int) = x := by omega
                   rw [← hxx] at h_58
                   exact pI_of ⟨rfl, XInv.tl0 ⟨(f_58 0 (by omega)).trans ho, hW.fld h_58 f_58, hK.keep (fun j a b => f_58 j (by omega)), hr.keep (fun j a b => f_58 j (by omega)) (fun j a b => f_58 j (by omega))⟩ (by omega), fun j hj => f_58 j (by omega)⟩)
                | (rw [show fPut (n, now, ca, po, fo, rs) a x = ((fo : Int), (n, now, ca, po, x.toNat, rs)) from (if_neg (by omega)).trans (if_neg h_28)]
                   have hxx : ((x.toNat : Nat) : Int) = x := by omega
                   rw [← hxx] at h_69
                   exact pI_of ⟨rfl, XInv.tl0 ⟨(f_69 0 (by omega)).trans ho, hW.fld h_69 f_69, hK.keep (fun j a b => f_69 j (by omega)), hr.keep (fun j a b => f_69 j (by omega)) (fun j a b => f_69 j (by omega))⟩ (by omega), fun j hj => f_69 j (by omega)⟩)
            · refine V_aload_n (Y := mX5_put) (pc := 53) dX5_put_53 rfl ?_
              apply V_get (Y := mX5_put) (pc := 54) dX5_put_54 fl_X5_10
              · assumption
              · rfl
              refine V_iload_n (Y := mX5_put) (pc := 57) dX5_put_57 rfl ?_
              apply V_putiW (Y := mX5_put) (pc := 58) dX5_put_58 fl_X5_100
              · assumption
              · exact Nat.le_of_ble_eq_true rfl
              intro w_58 h_58 f_58
              simp only [List.set_cons_zero, List.set_cons_succ] at h_58
              refine V_goto (tgt := 72) (Y := mX5_put) (pc := 61) dX5_put_61 (by decide) ?_
              refine V_iload_n (Y := mX5_put) (pc := 72) dX5_put_72 rfl ?_
              refine V_iret (Y := mX5_put) (pc := 73) dX5_put_73 rfl (Nat.le_of_ble_eq_true rfl) (Nat.le_of_ble_eq_true rfl) ?_
              first
                | (exfalso; omega)
                | (rw [show fPut (n, now, ca, po, fo, rs) a x = ((po : Int), (n, now, ca, x.toNat, fo, rs)) from (if_neg (by omega)).trans (if_pos h_28)]
                   have hxx : ((x.toNat : Nat) : Int) = x := by omega
                   rw [← hxx] at h_58
                   exact pI_of ⟨rfl, XInv.tl0 ⟨(f_58 0 (by omega)).trans ho, hW.fld h_58 f_58, hK.keep (fun j a b => f_58 j (by omega)), hr.keep (fun j a b => f_58 j (by omega)) (fun j a b => f_58 j (by omega))⟩ (by omega), fun j hj => f_58 j (by omega)⟩)
                | (rw [show fPut (n, now, ca, po, fo, rs) a x = ((fo : Int), (n, now, ca, po, x.toNat, rs)) from (if_neg (by omega)).trans (if_neg h_28)]
                   have hxx : ((x.toNat : Nat) : Int) = x := by omega
                   rw [← hxx] at h_69
                   exact pI_of ⟨rfl, XInv.tl0 ⟨(f_69 0 (by omega)).trans ho, hW.fld h_69 f_69, hK.keep (fun j a b => f_69 j (by omega)), hr.keep (fun j a b => f_69 j (by omega)) (fun j a b => f_69 j (by omega))⟩ (by omega), fun j hj => f_69 j (by omega)⟩)
        · refine V_aload_n (Y := mX5_put) (pc := 20) dX5_put_20 rfl ?_
          refine V_bipush (Y := mX5_put) (pc := 21) dX5_put_21 ⟨by decide, by decide⟩ ?_
          apply V_vI (Y := mX5_put) (pc := 23) dX5_put_23 ok_X5_counted ov_X5_counted ln_X5_85 (c_told (z := -2) ho ⟨by omega, by omega⟩)
          · assumption
          · rfl
          · rfl
          · rfl
          · rfl
          · rfl
          rintro z_23 w_23 ⟨hz2, g3, f3⟩
          subst hz2
          refine V_iret (Y := mX5_put) (pc := 26) dX5_put_26 rfl (Nat.le_of_ble_eq_true rfl) (Nat.le_of_ble_eq_true rfl) ?_
          rw [show fPut (n, now, ca, po, fo, rs) a x = (-2, (n, now, ca, po, fo, rs)) from if_pos (by omega)]
          exact pI_of ⟨rfl, XInv.told hr hW hK (fun j hj => rfl) g3 f3⟩
set_option maxRecDepth 100000 in
theorem cx_clear (h : XInv w (n, now, ca, po, fo, rs) S0 S1 k0 k1 tx rb rn rf) : Ctr mX5_clear (rm 3) [.ref 0] nn w (pI (fun z w' => z = (tx.length : Int) ∧ XInv w' (n, now, ca, po, fo, rs) S0 S1 k0 k1 [] rb rn rf ∧ frX w w') nn) := by
  refine Ctr_of (lv := [some (.ref 0), none]) (by decide +kernel) rfl rfl ?_
  obtain ⟨ho, hW, hK, hr⟩ := h
  have hr0 := hr
  obtain ⟨h1, h2, h3, h4, h5, h6, h7, h8⟩ := hr
  refine V_aload_n (Y := mX5_clear) (pc := 0) dX5_clear_0 rfl ?_
  apply V_get (Y := mX5_clear) (pc := 1) dX5_clear_1 fl_X5_37
  · assumption
  · rfl
  apply V_vR (Y := mX5_clear) (pc := 4) dX5_clear_4 ok_X2_size ov_X2_size ln_X5_109 (c_Row_size h4)
  · exact h4.obj
  · rfl
  · rfl
  · rfl
  · rfl
  · rfl
  refine V_istore_n (Y := mX5_clear) (pc := 7) dX5_clear_7 rfl ?_
  refine V_aload_n (Y := mX5_clear) (pc := 8) dX5_clear_8 rfl ?_
  apply V_get (Y := mX5_clear) (pc := 9) dX5_clear_9 fl_X5_37
  · assumption
  · rfl
  apply V_vV (Y := mX5_clear) (pc := 12) dX5_clear_12 ok_X2_drop ov_X2_drop ln_X5_116 (c_Row_drop h4)
  · exact h4.obj
  · rfl
  · rfl
  · rfl
  · rfl
  · rfl
  rintro w_12 ⟨g1, k1⟩
  refine V_iload_n (Y := mX5_clear) (pc := 15) dX5_clear_15 rfl ?_
  refine V_iret (Y := mX5_clear) (pc := 16) dX5_clear_16 rfl (Nat.le_of_ble_eq_true rfl) (Nat.le_of_ble_eq_true rfl) ?_
  refine pI_of ⟨rfl, ⟨(k1 0 (by omega) (by omega)).trans ho, hW.keep (fun j a b => k1 j (by omega) (by omega)), hK.keep (fun j a b => k1 j (by omega) (by omega)), ?_⟩, fun j hj => k1 j (by omega) (by omega)⟩
  obtain ⟨D, hD, hD2⟩ := h1
  obtain ⟨a, b, h6⟩ := h6
  obtain ⟨a2, b2, h7⟩ := h7
  obtain ⟨l, h8⟩ := h8
  exact ⟨⟨D, hD.keep (fun j a b => k1 j (by omega) (by omega)), hD2⟩, h2.keep (fun j a b => k1 j (by omega) (by omega)), h3.keep (fun j a b => k1 j (by omega) (by omega)), g1, h5.keep (fun j a b => k1 j (by omega) (by omega)), ⟨a, b, (k1 _ (by omega) (by omega)).trans h6⟩, ⟨a2, b2, (k1 _ (by omega) (by omega)).trans h7⟩, ⟨l, h8.keep (k1 _ (by omega) (by omega)) (k1 _ (by omega) (by omega))⟩⟩
set_option maxRecDepth 100000 in
theorem cx_pull {d : Int} (h : XInv w (n, now, ca, po, fo, rs) S0 S1 k0 k1 tx rb rn rf) (hG : vGood (n, now, ca, po, fo, rs)) (hd : inR d) : Ctr mX5_pull (rm 4) [.ref 0, vI d] nn w (pI (fun z w' => z = (fPull (n, now, ca, po, fo, rs) d).1 ∧ XInv w' (fPull (n, now, ca, po, fo, rs) d).2 S0 S1 k0 k1 tx (tl1 (-2) z rb) (tl1 (-3) z rn) (tl1 (-4) z rf) ∧ frX w w') nn) := by
  refine Ctr_of (lv := [some (.ref 0), some (vI d)]) (by decide +kernel) rfl rfl ?_
  obtain ⟨ho, hW, hK, hr⟩ := h
  obtain ⟨hn, hnow, hca, hpo, hfo, hgd, hcv, hor, hsg, hpast⟩ := hG
  have oW := hW.obj
  refine V_aload_n (Y := mX5_pull) (pc := 0) dX5_pull_0 rfl ?_
  apply V_get (Y := mX5_pull) (pc := 1) dX5_pull_1 fl_X5_10
  · assumption
  · rfl
  refine V_iload_n (Y := mX5_pull) (pc := 4) dX5_pull_4 rfl ?_
  apply V_vR (Y := mX5_pull) (pc := 5) dX5_pull_5 ok_X4_hasDrawer ov_X4_hasDrawer ln_X5_134 (c_hasDrawer (d := d) hW ⟨by omega, by omega⟩ hd)
  · assumption
  · rfl
  · rfl
  · rfl
  · rfl
  · rfl
  refine V_if_neB (tgt := 18) (Y := mX5_pull) (pc := 8) dX5_pull_8 (by decide) (fun h_8 => ?_) (fun h_8 => ?_)
  · refine V_aload_n (Y := mX5_pull) (pc := 18) dX5_pull_18 rfl ?_
    apply V_get (Y := mX5_pull) (pc := 19) dX5_pull_19 fl_X5_10
    · assumption
    · rfl
    apply V_vV (Y := mX5_pull) (pc := 22) dX5_pull_22 ok_X4_remember ov_X4_remember ln_X5_138 (c_remember hW)
    · assumption
    · rfl
    · rfl
    · rfl
    · rfl
    · rfl
    rintro w_22 ⟨g1, f1⟩
    have o22 := g1.obj
    have x22 := (f1 0 (by omega)).trans ho
    have e1 : (va_up rs 8 ((if 20 ≤ (rs 8).length then (rs 8).tail else rs 8) ++ [now])) 1 = rs 1 := rfl
    have e2 : (va_up rs 8 ((if 20 ≤ (rs 8).length then (rs 8).tail else rs 8) ++ [now])) 2 = rs 2 := rfl
    have e3 : (va_up rs 8 ((if 20 ≤ (rs 8).length then (rs 8).tail else rs 8) ++ [now])) 3 = rs 3 := rfl
    have e4 : (va_up rs 8 ((if 20 ≤ (rs 8).length then (rs 8).tail else rs 8) ++ [now])) 4 = rs 4 := rfl
    have hcv2 : cvOK n (va_up rs 8 ((if 20 ≤ (rs 8).length then (rs 8).tail else rs 8) ++ [now])) := hcv
    refine V_aload_n (Y := mX5_pull) (pc := 25) dX5_pull_25 rfl ?_
    apply V_get (Y := mX5_pull) (pc := 26) dX5_pull_26 fl_X5_10
    · assumption
    · rfl
    refine V_aload_n (Y := mX5_pull) (pc := 29) dX5_pull_29 rfl ?_
    apply V_get (Y := mX5_pull) (pc := 30) dX5_pull_30 fl_X5_10
    · assumption
    · rfl
    refine V_aload_n (Y := mX5_pull) (pc := 33) dX5_pull_33 rfl ?_
    apply V_get (Y := mX5_pull) (pc := 34) dX5_pull_34 fl_X5_10
    · assumption
    · rfl
    apply V_get (Y := mX5_pull) (pc := 37) dX5_pull_37 fl_X5_141
    · assumption
    · rfl
    refine V_iload_n (Y := mX5_pull) (pc := 40) dX5_pull_40 rfl ?_
    refine V_iconst (Y := mX5_pull) (pc := 41) dX5_pull_41 ?_
    apply V_vR (Y := mX5_pull) (pc := 42) dX5_pull_42 ok_X4_after ov_X4_after ln_X5_144 (c_after (s := now) (d := d) (x := iI (-1)) g1 ⟨by omega, by omega⟩ hcv2 hca hnow h_8)
    · assumption
    · rfl
    · rfl
    · rfl
    · rfl
    · rfl
    rw [aft_rs e1 e2 e3 e4]
    apply V_putiW (Y := mX5_pull) (pc := 45) dX5_pull_45 fl_X5_141
    · assumption
    · exact Nat.le_of_ble_eq_true rfl
    intro w_45 h_45 f_45
    simp only [List.set_cons_zero, List.set_cons_succ] at h_45
    have x45 := (f_45 0 (by omega)).trans x22
    refine V_aload_n (Y := mX5_pull) (pc := 48) dX5_pull_48 rfl ?_
    apply V_get (Y := mX5_pull) (pc := 49) dX5_pull_49 fl_X5_10
    · assumption
    · rfl
    apply V_get (Y := mX5_pull) (pc := 52) dX5_pull_52 fl_X5_141
    · assumption
    · rfl
    refine V_iret (Y := mX5_pull) (pc := 55) dX5_pull_55 rfl (Nat.le_of_ble_eq_true rfl) (Nat.le_of_ble_eq_true rfl) ?_
    have e : fPull (n, now, ca, po, fo, rs) d = (aft ca rs now d (iI (-1)), (n, aft ca rs now d (iI (-1)), ca, po, fo, va_up rs 8 ((if 20 ≤ (rs 8).length then (rs 8).tail else rs 8) ++ [now]))) := if_neg (fun q => q h_8)
    rw [e]
    have hz : 0 ≤ aft ca rs now d (iI (-1)) := (aft_rng ca hcv (iI (-1)) hnow h_8).1
    exact pI_of ⟨rfl, XInv.tl0 ⟨(f_45 0 (by omega)).trans x22, g1.fld h_45 f_45, (hK.keep (fun j a b => (f_45 j (by omega)).trans (f1 j (by omega)))).rs rfl rfl rfl rfl, hr.keep (fun j a b => (f_45 j (by omega)).trans (f1 j (by omega))) (fun j a b => (f_45 j (by omega)).trans (f1 j (by omega)))⟩ (by omega), fun j hj => (f_45 j (by omega)).trans (f1 j (by omega))⟩
  · refine V_aload_n (Y := mX5_pull) (pc := 11) dX5_pull_11 rfl ?_
    refine V_bipush (Y := mX5_pull) (pc := 12) dX5_pull_12 ⟨by decide, by decide⟩ ?_
    apply V_vI (Y := mX5_pull) (pc := 14) dX5_pull_14 ok_X5_counted ov_X5_counted ln_X5_85 (c_told (z := -2) ho ⟨by omega, by omega⟩)
    · assumption
    · rfl
    · rfl
    · rfl
    · rfl
    · rfl
    rintro z_14 w_14 ⟨hz2, g3, f3⟩
    subst hz2
    refine V_iret (Y := mX5_pull) (pc := 17) dX5_pull_17 rfl (Nat.le_of_ble_eq_true rfl) (Nat.le_of_ble_eq_true rfl) ?_
    rw [show fPull (n, now, ca, po, fo, rs) d = (-2, (n, now, ca, po, fo, rs)) from if_pos h_8]
    exact pI_of ⟨rfl, XInv.told hr hW hK (fun j hj => rfl) g3 f3⟩
set_option maxRecDepth 100000 in
theorem cx_undo (h : XInv w (n, now, ca, po, fo, rs) S0 S1 k0 k1 tx rb rn rf) (hG : vGood (n, now, ca, po, fo, rs)) : Ctr mX5_undo (rm 4) [.ref 0] nn w (pI (fun z w' => z = (fUndo (n, now, ca, po, fo, rs)).1 ∧ XInv w' (fUndo (n, now, ca, po, fo, rs)).2 S0 S1 k0 k1 tx (tl1 (-2) z rb) (tl1 (-3) z rn) (tl1 (-4) z rf) ∧ frX w w') nn) := by
  refine Ctr_of (lv := [some (.ref 0)]) (by decide +kernel) rfl rfl ?_
  obtain ⟨ho, hW, hK, hr⟩ := h
  obtain ⟨hn, hnow, hca, hpo, hfo, hgd, hcv, hor, hsg, hpast⟩ := hG
  have oW := hW.obj
  have hl := hW.r8.len
  refine V_aload_n (Y := mX5_undo) (pc := 0) dX5_undo_0 rfl ?_
  apply V_get (Y := mX5_undo) (pc := 1) dX5_undo_1 fl_X5_10
  · assumption
  · rfl
  apply V_get (Y := mX5_undo) (pc := 4) dX5_undo_4 fl_X5_148
  · assumption
  · rfl
  apply V_vR (Y := mX5_undo) (pc := 7) dX5_undo_7 ok_X2_size ov_X2_size ln_X5_109 (c_Row_size hW.r8)
  · exact hW.r8.obj
  · rfl
  · rfl
  · rfl
  · rfl
  · rfl
  refine V_if_ne (tgt := 20) (Y := mX5_undo) (pc := 10) dX5_undo_10 (by decide) ⟨by omega, by omega⟩ (fun h_10 => ?_) (fun h_10 => ?_)
  · refine V_aload_n (Y := mX5_undo) (pc := 20) dX5_undo_20 rfl ?_
    apply V_get (Y := mX5_undo) (pc := 21) dX5_undo_21 fl_X5_10
    · assumption
    · rfl
    refine V_aload_n (Y := mX5_undo) (pc := 24) dX5_undo_24 rfl ?_
    apply V_get (Y := mX5_undo) (pc := 25) dX5_undo_25 fl_X5_10
    · assumption
    · rfl
    apply V_get (Y := mX5_undo) (pc := 28) dX5_undo_28 fl_X5_148
    · assumption
    · rfl
    apply V_vI (Y := mX5_undo) (pc := 31) dX5_undo_31 ok_X2_takeLast ov_X2_takeLast ln_X5_151 (c_Row_takeLast hW.r8)
    · exact hW.r8.obj
    · rfl
    · rfl
    · rfl
    · rfl
    · rfl
    rintro z_31 w_31 ⟨hz, g1, f1⟩
    have h31 := hW.upd 8 (by decide) rfl g1 f1
    have o31 := h31.obj
    have x31 := (f1 0 (by omega) (by omega)).trans ho
    subst hz
    apply V_putiW (Y := mX5_undo) (pc := 34) dX5_undo_34 fl_X5_141
    · assumption
    · exact Nat.le_of_ble_eq_true rfl
    intro w_34 h_34 f_34
    simp only [List.set_cons_zero, List.set_cons_succ] at h_34
    have x34 := (f_34 0 (by omega)).trans x31
    refine V_aload_n (Y := mX5_undo) (pc := 37) dX5_undo_37 rfl ?_
    apply V_get (Y := mX5_undo) (pc := 38) dX5_undo_38 fl_X5_10
    · assumption
    · rfl
    apply V_get (Y := mX5_undo) (pc := 41) dX5_undo_41 fl_X5_141
    · assumption
    · rfl
    refine V_iret (Y := mX5_undo) (pc := 44) dX5_undo_44 rfl (Nat.le_of_ble_eq_true rfl) (Nat.le_of_ble_eq_true rfl) ?_
    have hz0 : ¬ (rs 8).length = 0 := by omega
    have e : fUndo (n, now, ca, po, fo, rs) = (rAt (rs 8) ((rs 8).length - 1), (n, rAt (rs 8) ((rs 8).length - 1), ca, po, fo, va_up rs 8 (rs 8).dropLast)) := if_neg hz0
    rw [e]
    have hz := (hpast ((rs 8).length - 1) (by show 0 ≤ ((rs 8).length : Int) - 1; omega) (by show ((rs 8).length : Int) - 1 < (rs 8).length; omega)).1
    have hz : 0 ≤ rAt (rs 8) (((rs 8).length : Int) - 1) := hz
    exact pI_of ⟨rfl, XInv.tl0 ⟨(f_34 0 (by omega)).trans x31, h31.fld h_34 f_34, (hK.keep (fun j a b => (f_34 j (by omega)).trans (f1 j (by omega) (by omega)))).rs rfl rfl rfl rfl, hr.keep (fun j a b => (f_34 j (by omega)).trans (f1 j (by omega) (by omega))) (fun j a b => (f_34 j (by omega)).trans (f1 j (by omega) (by omega)))⟩ (by omega), fun j hj => (f_34 j (by omega)).trans (f1 j (by omega) (by omega))⟩
  · refine V_aload_n (Y := mX5_undo) (pc := 13) dX5_undo_13 rfl ?_
    refine V_bipush (Y := mX5_undo) (pc := 14) dX5_undo_14 ⟨by decide, by decide⟩ ?_
    apply V_vI (Y := mX5_undo) (pc := 16) dX5_undo_16 ok_X5_counted ov_X5_counted ln_X5_85 (c_told (z := -3) ho ⟨by omega, by omega⟩)
    · assumption
    · rfl
    · rfl
    · rfl
    · rfl
    · rfl
    rintro z_14 w_14 ⟨hz2, g3, f3⟩
    subst hz2
    refine V_iret (Y := mX5_undo) (pc := 19) dX5_undo_19 rfl (Nat.le_of_ble_eq_true rfl) (Nat.le_of_ble_eq_true rfl) ?_
    have hz0 : (rs 8).length = 0 := by omega
    rw [show fUndo (n, now, ca, po, fo, rs) = (-3, (n, now, ca, po, fo, rs)) from if_pos hz0]
    exact pI_of ⟨rfl, XInv.told hr hW hK (fun j hj => rfl) g3 f3⟩
set_option maxRecDepth 100000 in
theorem cx_behind {s d : Int} (h : XInv w (n, now, ca, po, fo, rs) S0 S1 k0 k1 tx rb rn rf) (hG : vGood (n, now, ca, po, fo, rs)) (hs : inR s) (hd : inR d) : Ctr mX5_behind (rm 4) [.ref 0, vI s, vI d] nn w (pI (fun z w' => z = fBehind (n, now, ca, po, fo, rs) s d ∧ XInv w' (n, now, ca, po, fo, rs) S0 S1 k0 k1 tx (tl1 (-2) z rb) (tl1 (-3) z rn) (tl1 (-4) z rf) ∧ frX w w') nn) := by
  refine Ctr_of (lv := [some (.ref 0), some (vI s), some (vI d)]) (by decide +kernel) rfl rfl ?_
  have h0 := h
  obtain ⟨ho, hW, hK, hr⟩ := h
  obtain ⟨hn, hnow, hca, hpo, hfo, hgd, hcv, hor, hsg, hpast⟩ := hG
  have oW := hW.obj
  refine V_aload_n (Y := mX5_behind) (pc := 0) dX5_behind_0 rfl ?_
  apply V_get (Y := mX5_behind) (pc := 1) dX5_behind_1 fl_X5_10
  · assumption
  · rfl
  refine V_iload_n (Y := mX5_behind) (pc := 4) dX5_behind_4 rfl ?_
  apply V_vR (Y := mX5_behind) (pc := 5) dX5_behind_5 ok_X4_hasState ov_X4_hasState ln_X5_154 (c_hasState (s := s) hW ⟨by omega, by omega⟩ hs)
  · assumption
  · rfl
  · rfl
  · rfl
  · rfl
  · rfl
  refine V_if_eqB (tgt := 22) (Y := mX5_behind) (pc := 8) dX5_behind_8 (by decide) (fun h_8 => ?_) (fun h_8 => ?_)
  · refine V_aload_n (Y := mX5_behind) (pc := 22) dX5_behind_22 rfl ?_
    refine V_bipush (Y := mX5_behind) (pc := 23) dX5_behind_23 ⟨by decide, by decide⟩ ?_
    apply V_vI (Y := mX5_behind) (pc := 25) dX5_behind_25 ok_X5_counted ov_X5_counted ln_X5_85 (c_told (z := -2) ho ⟨by omega, by omega⟩)
    · assumption
    · rfl
    · rfl
    · rfl
    · rfl
    · rfl
    rintro z_14 w_14 ⟨hz2, g3, f3⟩
    subst hz2
    refine V_iret (Y := mX5_behind) (pc := 28) dX5_behind_28 rfl (Nat.le_of_ble_eq_true rfl) (Nat.le_of_ble_eq_true rfl) ?_
    rw [show fBehind (n, now, ca, po, fo, rs) s d = -2 from if_pos (fun q => by first | exact h_8 q.1 | exact h_19 q.2)]
    exact pI_of ⟨rfl, XInv.told hr hW hK (fun j hj => rfl) g3 f3⟩
  · refine V_aload_n (Y := mX5_behind) (pc := 11) dX5_behind_11 rfl ?_
    apply V_get (Y := mX5_behind) (pc := 12) dX5_behind_12 fl_X5_10
    · assumption
    · rfl
    refine V_iload_n (Y := mX5_behind) (pc := 15) dX5_behind_15 rfl ?_
    apply V_vR (Y := mX5_behind) (pc := 16) dX5_behind_16 ok_X4_hasDrawer ov_X4_hasDrawer ln_X5_134 (c_hasDrawer (d := d) hW ⟨by omega, by omega⟩ hd)
    · assumption
    · rfl
    · rfl
    · rfl
    · rfl
    · rfl
    refine V_if_neB (tgt := 29) (Y := mX5_behind) (pc := 19) dX5_behind_19 (by decide) (fun h_19 => ?_) (fun h_19 => ?_)
    · refine V_aload_n (Y := mX5_behind) (pc := 29) dX5_behind_29 rfl ?_
      apply V_get (Y := mX5_behind) (pc := 30) dX5_behind_30 fl_X5_10
      · assumption
      · rfl
      refine V_iload_n (Y := mX5_behind) (pc := 33) dX5_behind_33 rfl ?_
      refine V_iload_n (Y := mX5_behind) (pc := 34) dX5_behind_34 rfl ?_
      refine V_iconst (Y := mX5_behind) (pc := 35) dX5_behind_35 ?_
      apply V_vR (Y := mX5_behind) (pc := 36) dX5_behind_36 ok_X4_after ov_X4_after ln_X5_144 (c_after (s := s) (d := d) (x := iI (-1)) hW ⟨by omega, by omega⟩ hcv hca h_8 h_19)
      · assumption
      · rfl
      · rfl
      · rfl
      · rfl
      · rfl
      refine V_iret (Y := mX5_behind) (pc := 39) dX5_behind_39 rfl (Nat.le_of_ble_eq_true rfl) (Nat.le_of_ble_eq_true rfl) ?_
      rw [show fBehind (n, now, ca, po, fo, rs) s d = aft ca rs s d (iI (-1)) from if_neg (fun q => q ⟨h_8, h_19⟩)]
      have hz : 0 ≤ aft ca rs s d (iI (-1)) := (aft_rng ca hcv (iI (-1)) h_8 h_19).1
      exact pI_of ⟨rfl, h0.tl0 (by omega), frX.refl w⟩
    · refine V_aload_n (Y := mX5_behind) (pc := 22) dX5_behind_22 rfl ?_
      refine V_bipush (Y := mX5_behind) (pc := 23) dX5_behind_23 ⟨by decide, by decide⟩ ?_
      apply V_vI (Y := mX5_behind) (pc := 25) dX5_behind_25 ok_X5_counted ov_X5_counted ln_X5_85 (c_told (z := -2) ho ⟨by omega, by omega⟩)
      · assumption
      · rfl
      · rfl
      · rfl
      · rfl
      · rfl
      rintro z_14 w_14 ⟨hz2, g3, f3⟩
      subst hz2
      refine V_iret (Y := mX5_behind) (pc := 28) dX5_behind_28 rfl (Nat.le_of_ble_eq_true rfl) (Nat.le_of_ble_eq_true rfl) ?_
      rw [show fBehind (n, now, ca, po, fo, rs) s d = -2 from if_pos (fun q => by first | exact h_8 q.1 | exact h_19 q.2)]
      exact pI_of ⟨rfl, XInv.told hr hW hK (fun j hj => rfl) g3 f3⟩
set_option maxRecDepth 100000 in
theorem cx_out {d : Int} (h : XInv w (n, now, ca, po, fo, rs) S0 S1 k0 k1 tx rb rn rf) (hG : vGood (n, now, ca, po, fo, rs)) (hd : inR d) : Ctr mX5_out (rm 4) [.ref 0, vI d] nn w (pI (fun z w' => z = fOut (n, now, ca, po, fo, rs) d ∧ XInv w' (n, now, ca, po, fo, rs) S0 S1 k0 k1 tx (tl1 (-2) z rb) (tl1 (-3) z rn) (tl1 (-4) z rf) ∧ frX w w') nn) := by
  refine Ctr_of (lv := [some (.ref 0), some (vI d)]) (by decide +kernel) rfl rfl ?_
  have h0 := h
  obtain ⟨ho, hW, hK, hr⟩ := h
  obtain ⟨hn, hnow, hca, hpo, hfo, hgd, hcv, hor, hsg, hpast⟩ := hG
  have hn : 2 ≤ n ∧ n ≤ 7 := hn
  have hnow : isS n now := hnow
  have oW := hW.obj
  have hp := p3_le n.toNat (by omega)
  refine V_aload_n (Y := mX5_out) (pc := 0) dX5_out_0 rfl ?_
  apply V_get (Y := mX5_out) (pc := 1) dX5_out_1 fl_X5_10
  · assumption
  · rfl
  refine V_iload_n (Y := mX5_out) (pc := 4) dX5_out_4 rfl ?_
  apply V_vR (Y := mX5_out) (pc := 5) dX5_out_5 ok_X4_hasDrawer ov_X4_hasDrawer ln_X5_134 (c_hasDrawer (d := d) hW ⟨by omega, by omega⟩ hd)
  · assumption
  · rfl
  · rfl
  · rfl
  · rfl
  · rfl
  refine V_if_neB (tgt := 18) (Y := mX5_out) (pc := 8) dX5_out_8 (by decide) (fun h_8 => ?_) (fun h_8 => ?_)
  · refine V_aload_n (Y := mX5_out) (pc := 18) dX5_out_18 rfl ?_
    apply V_get (Y := mX5_out) (pc := 19) dX5_out_19 fl_X5_10
    · assumption
    · rfl
    apply V_get (Y := mX5_out) (pc := 22) dX5_out_22 fl_X5_141
    · assumption
    · rfl
    refine V_iload_n (Y := mX5_out) (pc := 25) dX5_out_25 rfl ?_
    apply V_sR (Y := mX5_out) (pc := 26) dX5_out_26 ok_X5_outIn os_X5_outIn ln_X5_157 (c_outIn (s := now) (d := d) hnow.1 ⟨by omega, by omega⟩ ⟨by omega, by omega⟩)
    · rfl
    · rfl
    · rfl
    refine V_iret (Y := mX5_out) (pc := 29) dX5_out_29 rfl (Nat.le_of_ble_eq_true rfl) (Nat.le_of_ble_eq_true rfl) ?_
    rw [show fOut (n, now, ca, po, fo, rs) d = dg now d.toNat from if_neg (fun q => q h_8)]
    have hz := (dg_rng now d.toNat).1
    exact pI_of ⟨rfl, h0.tl0 (by omega), frX.refl w⟩
  · refine V_aload_n (Y := mX5_out) (pc := 11) dX5_out_11 rfl ?_
    refine V_bipush (Y := mX5_out) (pc := 12) dX5_out_12 ⟨by decide, by decide⟩ ?_
    apply V_vI (Y := mX5_out) (pc := 14) dX5_out_14 ok_X5_counted ov_X5_counted ln_X5_85 (c_told (z := -2) ho ⟨by omega, by omega⟩)
    · assumption
    · rfl
    · rfl
    · rfl
    · rfl
    · rfl
    rintro z_14 w_14 ⟨hz2, g3, f3⟩
    subst hz2
    refine V_iret (Y := mX5_out) (pc := 17) dX5_out_17 rfl (Nat.le_of_ble_eq_true rfl) (Nat.le_of_ble_eq_true rfl) ?_
    rw [show fOut (n, now, ca, po, fo, rs) d = -2 from if_pos h_8]
    exact pI_of ⟨rfl, XInv.told hr hW hK (fun j hj => rfl) g3 f3⟩
set_option maxRecDepth 100000 in
theorem cx_danger {s : Int} (h : XInv w (n, now, ca, po, fo, rs) S0 S1 k0 k1 tx rb rn rf) (hG : vGood (n, now, ca, po, fo, rs)) (hs : inR s) : Ctr mX5_danger (rm 4) [.ref 0, vI s] nn w (pI (fun z w' => z = fDanger (n, now, ca, po, fo, rs) s ∧ XInv w' (n, now, ca, po, fo, rs) S0 S1 k0 k1 tx (tl1 (-2) z rb) (tl1 (-3) z rn) (tl1 (-4) z rf) ∧ frX w w') nn) := by
  refine Ctr_of (lv := [some (.ref 0), some (vI s)]) (by decide +kernel) rfl rfl ?_
  have h0 := h
  obtain ⟨ho, hW, hK, hr⟩ := h
  obtain ⟨hn, hnow, hca, hpo, hfo, hgd, hcv, hor, hsg, hpast⟩ := hG
  have hn : 2 ≤ n ∧ n ≤ 7 := hn
  have oW := hW.obj
  refine V_aload_n (Y := mX5_danger) (pc := 0) dX5_danger_0 rfl ?_
  apply V_get (Y := mX5_danger) (pc := 1) dX5_danger_1 fl_X5_10
  · assumption
  · rfl
  refine V_iload_n (Y := mX5_danger) (pc := 4) dX5_danger_4 rfl ?_
  apply V_vR (Y := mX5_danger) (pc := 5) dX5_danger_5 ok_X4_hasState ov_X4_hasState ln_X5_154 (c_hasState (s := s) hW ⟨by omega, by omega⟩ hs)
  · assumption
  · rfl
  · rfl
  · rfl
  · rfl
  · rfl
  refine V_if_neB (tgt := 18) (Y := mX5_danger) (pc := 8) dX5_danger_8 (by decide) (fun h_8 => ?_) (fun h_8 => ?_)
  · refine V_aload_n (Y := mX5_danger) (pc := 18) dX5_danger_18 rfl ?_
    apply V_get (Y := mX5_danger) (pc := 19) dX5_danger_19 fl_X5_10
    · assumption
    · rfl
    refine V_iload_n (Y := mX5_danger) (pc := 22) dX5_danger_22 rfl ?_
    apply V_vR (Y := mX5_danger) (pc := 23) dX5_danger_23 ok_X4_isDanger ov_X4_isDanger ln_X5_231 (c_isDanger (s := s) hW ⟨by omega, by omega⟩ hpo hfo hgd h_8)
    · assumption
    · rfl
    · rfl
    · rfl
    · rfl
    · rfl
    refine V_if_eqB (tgt := 33) (Y := mX5_danger) (pc := 26) dX5_danger_26 (by decide) (fun h_26 => ?_) (fun h_26 => ?_)
    · refine V_iconst (Y := mX5_danger) (pc := 33) dX5_danger_33 ?_
      refine V_iret (Y := mX5_danger) (pc := 34) dX5_danger_34 rfl (Nat.le_of_ble_eq_true rfl) (Nat.le_of_ble_eq_true rfl) ?_
      rw [show fDanger (n, now, ca, po, fo, rs) s = bI (dgBits n po fo rs s ≠ 0) from if_neg (fun q => q h_8)]
      first
        | (rw [bI_t h_26]; exact pI_of ⟨rfl, h0.tl0 (by omega), frX.refl w⟩)
        | (rw [bI_f h_26]; exact pI_of ⟨rfl, h0.tl0 (by omega), frX.refl w⟩)
    · refine V_iconst (Y := mX5_danger) (pc := 29) dX5_danger_29 ?_
      refine V_goto (tgt := 34) (Y := mX5_danger) (pc := 30) dX5_danger_30 (by decide) ?_
      refine V_iret (Y := mX5_danger) (pc := 34) dX5_danger_34 rfl (Nat.le_of_ble_eq_true rfl) (Nat.le_of_ble_eq_true rfl) ?_
      rw [show fDanger (n, now, ca, po, fo, rs) s = bI (dgBits n po fo rs s ≠ 0) from if_neg (fun q => q h_8)]
      first
        | (rw [bI_t h_26]; exact pI_of ⟨rfl, h0.tl0 (by omega), frX.refl w⟩)
        | (rw [bI_f h_26]; exact pI_of ⟨rfl, h0.tl0 (by omega), frX.refl w⟩)
  · refine V_aload_n (Y := mX5_danger) (pc := 11) dX5_danger_11 rfl ?_
    refine V_bipush (Y := mX5_danger) (pc := 12) dX5_danger_12 ⟨by decide, by decide⟩ ?_
    apply V_vI (Y := mX5_danger) (pc := 14) dX5_danger_14 ok_X5_counted ov_X5_counted ln_X5_85 (c_told (z := -2) ho ⟨by omega, by omega⟩)
    · assumption
    · rfl
    · rfl
    · rfl
    · rfl
    · rfl
    rintro z_14 w_14 ⟨hz2, g3, f3⟩
    subst hz2
    refine V_iret (Y := mX5_danger) (pc := 17) dX5_danger_17 rfl (Nat.le_of_ble_eq_true rfl) (Nat.le_of_ble_eq_true rfl) ?_
    rw [show fDanger (n, now, ca, po, fo, rs) s = -2 from if_pos h_8]
    exact pI_of ⟨rfl, XInv.told hr hW hK (fun j hj => rfl) g3 f3⟩
set_option maxRecDepth 100000 in
theorem cx_status {a : Int} (h : XInv w (n, now, ca, po, fo, rs) S0 S1 k0 k1 tx rb rn rf) (ha : inR a) : Ctr mX5_status (rm 4) [.ref 0, vI a] nn w (pI (fun z w' => z = (if a = 0 then rb else if a = 1 then rn else if a = 2 then rf else -1) ∧ XInv w' (n, now, ca, po, fo, rs) S0 S1 k0 k1 tx (if 0 ≤ a ∧ a ≤ 2 then rb else rb + 1) rn rf ∧ frX w w') nn) := by
  refine Ctr_of (lv := [some (.ref 0), some (vI a)]) (by decide +kernel) rfl rfl ?_
  have h0 := h
  obtain ⟨ho, hW, hK, hr⟩ := h
  refine V_iload_n (Y := mX5_status) (pc := 0) dX5_status_0 rfl ?_
  refine V_if_ne (tgt := 9) (Y := mX5_status) (pc := 1) dX5_status_1 (by decide) ⟨by omega, by omega⟩ (fun h_1 => ?_) (fun h_1 => ?_)
  · refine V_iload_n (Y := mX5_status) (pc := 9) dX5_status_9 rfl ?_
    refine V_iconst (Y := mX5_status) (pc := 10) dX5_status_10 ?_
    refine V_icmp_ne (tgt := 19) (Y := mX5_status) (pc := 11) dX5_status_11 (by decide) ⟨by omega, by omega⟩ ⟨by omega, by omega⟩ (fun h_11 => ?_) (fun h_11 => ?_)
    · refine V_iload_n (Y := mX5_status) (pc := 19) dX5_status_19 rfl ?_
      refine V_iconst (Y := mX5_status) (pc := 20) dX5_status_20 ?_
      refine V_icmp_ne (tgt := 29) (Y := mX5_status) (pc := 21) dX5_status_21 (by decide) ⟨by omega, by omega⟩ ⟨by omega, by omega⟩ (fun h_21 => ?_) (fun h_21 => ?_)
      · refine V_aload_n (Y := mX5_status) (pc := 29) dX5_status_29 rfl ?_
        refine V_bipush (Y := mX5_status) (pc := 30) dX5_status_30 ⟨by decide, by decide⟩ ?_
        apply V_vI (Y := mX5_status) (pc := 32) dX5_status_32 ok_X5_counted ov_X5_counted ln_X5_85 (c_told (z := -2) ho ⟨by omega, by omega⟩)
        · assumption
        · rfl
        · rfl
        · rfl
        · rfl
        · rfl
        rintro z_14 w_14 ⟨hz2, g3, f3⟩
        subst hz2
        refine V_pop (Y := mX5_status) (pc := 35) dX5_status_35 rfl ?_
        refine V_iconst (Y := mX5_status) (pc := 36) dX5_status_36 ?_
        refine V_iret (Y := mX5_status) (pc := 37) dX5_status_37 rfl (Nat.le_of_ble_eq_true rfl) (Nat.le_of_ble_eq_true rfl) ?_
        have q := XInv.told hr hW hK (fun j hj => rfl) g3 f3
        rw [if_neg h_1, if_neg h_11, if_neg h_21, if_neg (show ¬ (0 ≤ a ∧ a ≤ 2) by omega)]
        exact pI_of ⟨rfl, q⟩
      · refine V_aload_n (Y := mX5_status) (pc := 24) dX5_status_24 rfl ?_
        apply V_get (Y := mX5_status) (pc := 25) dX5_status_25 fl_X5_75
        · assumption
        · rfl
        refine V_iret (Y := mX5_status) (pc := 28) dX5_status_28 rfl (Nat.le_of_ble_eq_true rfl) (Nat.le_of_ble_eq_true rfl) ?_
        simp only [h_1, if_true, if_false]
        first
          | exact pI_of ⟨rfl, h0, frX.refl w⟩
          | (subst h_1; exact pI_of ⟨rfl, h0, frX.refl w⟩)
          | (subst h_11; exact pI_of ⟨rfl, h0, frX.refl w⟩)
          | (subst h_21; exact pI_of ⟨rfl, h0, frX.refl w⟩)
    · refine V_aload_n (Y := mX5_status) (pc := 14) dX5_status_14 rfl ?_
      apply V_get (Y := mX5_status) (pc := 15) dX5_status_15 fl_X5_72
      · assumption
      · rfl
      refine V_iret (Y := mX5_status) (pc := 18) dX5_status_18 rfl (Nat.le_of_ble_eq_true rfl) (Nat.le_of_ble_eq_true rfl) ?_
      simp only [h_1, if_true, if_false]
      first
        | exact pI_of ⟨rfl, h0, frX.refl w⟩
        | (subst h_1; exact pI_of ⟨rfl, h0, frX.refl w⟩)
        | (subst h_11; exact pI_of ⟨rfl, h0, frX.refl w⟩)
        | (subst h_21; exact pI_of ⟨rfl, h0, frX.refl w⟩)
  · refine V_aload_n (Y := mX5_status) (pc := 4) dX5_status_4 rfl ?_
    apply V_get (Y := mX5_status) (pc := 5) dX5_status_5 fl_X5_68
    · assumption
    · rfl
    refine V_iret (Y := mX5_status) (pc := 8) dX5_status_8 rfl (Nat.le_of_ble_eq_true rfl) (Nat.le_of_ble_eq_true rfl) ?_
    simp only [h_1, if_true, if_false]
    first
      | exact pI_of ⟨rfl, h0, frX.refl w⟩
      | (subst h_1; exact pI_of ⟨rfl, h0, frX.refl w⟩)
      | (subst h_11; exact pI_of ⟨rfl, h0, frX.refl w⟩)
      | (subst h_21; exact pI_of ⟨rfl, h0, frX.refl w⟩)
end CLS
