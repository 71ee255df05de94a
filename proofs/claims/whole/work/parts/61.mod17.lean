/-! ===== DrawerWallModel: day, laid ===== -/
theorem exB_ext {X Y a b : Nat} (h : ∀ e : Nat, X.testBit e = if e = a then Y.testBit b else if e = b then Y.testBit a else Y.testBit e) : X = exB Y a b := by
  apply Nat.eq_of_testBit_eq
  intro e
  rw [h e]
  unfold exB
  by_cases hab : Y.testBit a = Y.testBit b
  · rw [if_pos hab]
    by_cases h1 : e = a
    · rw [if_pos h1, h1, hab]
    · rw [if_neg h1]
      by_cases h2 : e = b
      · rw [if_pos h2, h2, hab]
      · rw [if_neg h2]
  · rw [if_neg hab, Nat.testBit_xor, Nat.testBit_or, p2, p2, Nat.testBit_two_pow, Nat.testBit_two_pow]
    by_cases h1 : e = a
    · rw [if_pos h1, h1]
      cases ha : Y.testBit a <;> cases hb : Y.testBit b <;> simp_all
    · rw [if_neg h1]
      by_cases h2 : e = b
      · rw [if_pos h2, h2]
        cases ha : Y.testBit a <;> cases hb : Y.testBit b <;> simp_all
      · rw [if_neg h2]
        have e1 : decide (a = e) = false := by simpa using fun q => h1 q.symm
        have e2 : decide (b = e) = false := by simpa using fun q => h2 q.symm
        rw [e1, e2]; simp
def swL (l : List Int) (a b : Int) : List Int := rSet (rSet l a (rAt l b)) b (rAt l a)
def swR (rs : Nat → List Int) (a b : Int) : Nat → List Int := va_up (va_up rs 0 (rSet (rs 0) a (rAt (rs 0) b))) 0 (swL (rs 0) a b)
theorem swL_at {l : List Int} {a b : Int} (ha : 0 ≤ a ∧ a < l.length) (hb : 0 ≤ b ∧ b < l.length) (e : Int) : rAt (swL l a b) e = if e = b then rAt l a else if e = a then rAt l b else rAt l e := by
  rw [swL, rAt_set hb.1 (by rw [rSet_len]; exact hb.2), rAt_set ha.1 ha.2]
theorem hdB_swap {n : Int} {rs : Nat → List Int} {a b o : Int} (hgd : gdOK n rs) (ha : isD n a) (hb : isD n b) (hab : a ≠ b) : hdB n (swR rs a b) o = holdB n rs a b o := by
  have hl := hgd.1
  unfold hdB holdB
  apply exB_ext
  intro e
  have r0 : swR rs a b 0 = swL (rs 0) a b := rfl
  have r5 : swR rs a b 5 = rs 5 := rfl
  rw [r0, r5, dwB_bit, dwB_bit, dwB_bit, dwB_bit, swL_at ⟨ha.1, by omega⟩ ⟨hb.1, by omega⟩]
  by_cases h1 : e = a.toNat
  · rw [if_pos h1, if_neg (show ¬ (e : Int) = b by omega), if_pos (show (e : Int) = a by omega), show ((b.toNat : Nat) : Int) = b by omega]
    exact decide_eq_decide.mpr ⟨fun q => ⟨by omega, q.2⟩, fun q => ⟨by omega, q.2⟩⟩
  · rw [if_neg h1]
    by_cases h2 : e = b.toNat
    · rw [if_pos h2, if_pos (show (e : Int) = b by omega), show ((a.toNat : Nat) : Int) = a by omega]
      exact decide_eq_decide.mpr ⟨fun q => ⟨by omega, q.2⟩, fun q => ⟨by omega, q.2⟩⟩
    · rw [if_neg h2, if_neg (show ¬ (e : Int) = b by omega), if_neg (show ¬ (e : Int) = a by omega)]
theorem hdB_0 (n : Int) (rs : Nat → List Int) (o : Int) : hdB n rs o = holdB n rs 0 0 o := by
  unfold hdB holdB exB
  rw [if_pos rfl]
theorem hdB_same {n : Int} {rs : Nat → List Int} {a b o : Int} (hgd : gdOK n rs) (ha : isD n a) (hb : isD n b) (h : rAt (rs 0) a = rAt (rs 0) b) : holdB n rs a b o = holdB n rs 0 0 o := by
  rw [← hdB_0]
  unfold holdB hdB exB
  rw [if_pos]
  rw [dwB_bit, dwB_bit, show ((a.toNat : Nat) : Int) = a by omega, show ((b.toNat : Nat) : Int) = b by omega, h]
  exact decide_eq_decide.mpr ⟨fun q => ⟨by omega, q.2⟩, fun q => ⟨by omega, q.2⟩⟩
theorem dayR_H (n : Int) (ca : Nat) (rs : Nat → List Int) (a b : Int) : dayR n ca rs a b = ((fRunH (spP ca rs) n (holdB n rs a b) (rs 5).length 0 0 0 0 bF0).1, (fRunH (spP ca rs) n (holdB n rs a b) (rs 5).length 0 0 0 0 bF0).2.1) := by
  unfold dayR
  rw [fRun_H]
theorem FSh_0 : FSh bF0 := ⟨by show (List.replicate 2187 (0 : Int)).length = 2187; rw [List.length_replicate], by show (List.replicate 2187 (0 : Int)).length = 2187; rw [List.length_replicate]⟩
theorem dayR_rng {n : Int} {ca : Nat} {rs : Nat → List Int} (hn : 0 ≤ n ∧ n ≤ 7) (hcv : cvOK n rs) (hl : (rs 5).length ≤ 6) (a b : Int) : (0 ≤ (dayR n ca rs a b).1 ∧ (dayR n ca rs a b).1 ≤ 10) ∧ 0 ≤ (dayR n ca rs a b).2 ∧ (dayR n ca rs a b).2 ≤ 21870 := by
  have hp := p3_1 n.toNat
  have k := fRunH_rng (hold := holdB n rs a b) hn (spP_ok (ca := ca) hcv) (rs 5).length 0 0 0 0 bF0 ⟨by omega, by omega⟩ FSh_0
  rw [dayR_H]
  exact ⟨⟨k.1.1, by have := k.1.2; show (fRunH (spP ca rs) n (holdB n rs a b) (rs 5).length 0 0 0 0 bF0).1 ≤ 10; omega⟩, k.2.1, by have := k.2.2; show (fRunH (spP ca rs) n (holdB n rs a b) (rs 5).length 0 0 0 0 bF0).2.1 ≤ 21870; omega⟩
def btr (x y : Int × Int) : Prop := y.1 < x.1 ∨ (x.1 = y.1 ∧ x.2 < y.2)
section MOD
variable {nn : Nat} {w : vWd} {n now : Int} {ca po fo : Nat} {rs : Nat → List Int} {sp : Int → Int → Int} {qt ty a0 sp0 tk vl mn fd k0 k1 rb rn rf : Int} {f : Nat → Int} {S0 S1 : vSt} {tx : List Int}
theorem MInv.frD {w w' : vWd} {S S0 S1 : vSt} {k0 k1 rb rn rf a0 sp tk vl mn fd sv : Int} {tx : List Int} (h : MInv w S S0 S1 k0 k1 tx rb rn rf) (ho : w' 99 = some (mO 0 tx.length a0 sp tk vl mn fd sv)) (hb : ∃ f, w' 100 = some (arI 98 f) ∧ BkS f S) (hf : ∀ j, j ≠ 99 → j ≠ 100 → j ≠ 107 → j ≠ 108 → w' j = w j) (h7 : ∃ g, w' 107 = some (arI 15309 g)) (h8 : ∃ g, w' 108 = some (arI 2187 g)) : MInv w' S S0 S1 k0 k1 tx rb rn rf ∧ frM w w' := by
  obtain ⟨⟨-, -, hr, hq⟩, -, hT, hI, s1, s2, -, -, s5, s6⟩ := h
  have o := fun (j : Nat) (q : j < 99 ∨ (101 ≤ j ∧ j < 107) ∨ 109 ≤ j) => hf j (by omega) (by omega) (by omega) (by omega)
  refine ⟨⟨⟨⟨_, _, _, _, _, _, _, _, ho⟩, hb, hr.keep (o _ (by omega)), hq⟩, ⟨_, _, _, _, _, _, _, ho⟩, hT.keep (o _ (by omega)), hI.keep (o _ (by omega)) (o _ (by omega)), ?_, ?_, h7, h8, ?_, ?_⟩, fun j hj => o j (by omega)⟩
  · obtain ⟨g, q⟩ := s1; exact ⟨g, (o _ (by omega)).trans q⟩
  · obtain ⟨g, q⟩ := s2; exact ⟨g, (o _ (by omega)).trans q⟩
  · obtain ⟨g, q⟩ := s5; exact ⟨g, (o _ (by omega)).trans q⟩
  · obtain ⟨g, q⟩ := s6; exact ⟨g, (o _ (by omega)).trans q⟩
set_option maxRecDepth 100000 in
theorem mx_day {a : Int} (h : MInv w (n, now, ca, po, fo, rs) S0 S1 k0 k1 tx rb rn rf) (hG : vGood (n, now, ca, po, fo, rs)) (ha : inR a) : Ctr mX6_day (rm 6) [.ref 99, vI a] nn w (pI (fun z w' => z = fDay (n, now, ca, po, fo, rs) a ∧ MInv w' (n, now, ca, po, fo, rs) S0 S1 k0 k1 tx (tl1 (-2) z rb) (tl1 (-3) z rn) (tl1 (-4) z rf) ∧ frM w w') nn) := by
  refine Ctr_of (lv := [some (.ref 99), some (vI a), none]) (by decide +kernel) rfl rfl ?_
  have h0 := h
  have hM := h.1.ms
  have hG0 := hG
  obtain ⟨hn, hnow, hca, hpo, hfo, hgd, hcv, hor, hsg, hpast⟩ := hG.un
  obtain ⟨⟨-, ⟨f, hb, hB⟩, hr, hq⟩, ⟨a0, sp, tk, vl, mn, fd, sv, ho⟩, hT, hI, s1, s2, ⟨ld, h7⟩, ⟨fr, h8⟩, s5, s6⟩ := h
  have hB : BkOf f n now ca po fo rs := hB
  have hl := hB.2.1
  have hsp := spP_ok (ca := ca) hcv
  have hrg := dayR_rng (ca := ca) ⟨by omega, by omega⟩ hcv hl.2.1 0 0
  have hdr : dayR n ca rs 0 0 = ((fRunH (spP ca rs) n (hdB n rs) (rs 5).length 0 0 0 0 bF0).1, (fRunH (spP ca rs) n (hdB n rs) (rs 5).length 0 0 0 0 bF0).2.1) := by
    rw [dayR_H, fRunH_congr (spP ca rs) n (N := (rs 5).length) (h1 := holdB n rs 0 0) (h2 := hdB n rs) (fun o _ _ => (hdB_0 n rs o).symm) _ _ _ _ _ _ (by omega) (by omega)]
  refine V_iload_n (Y := mX6_day) (pc := 0) dX6_day_0 rfl ?_
  refine V_i2l (Y := mX6_day) (pc := 1) dX6_day_1 ha ?_
  refine V_lconst (Y := mX6_day) (pc := 2) dX6_day_2 ?_
  refine V_lconst (Y := mX6_day) (pc := 3) dX6_day_3 ?_
  apply V_sR (Y := mX6_day) (pc := 4) dX6_day_4 ok_X6_in os_X6_in ln_X6_56 (cm_in (a := a) (b := 0) (c := 1) ha ⟨by omega, by omega⟩ ⟨by omega, by omega⟩)
  · rfl
  · rfl
  · rfl
  refine V_if_neB (tgt := 15) (Y := mX6_day) (pc := 7) dX6_day_7 (by decide) (fun h_7 => ?_) (fun h_7 => ?_)
  · refine V_aload_n (Y := mX6_day) (pc := 15) dX6_day_15 rfl ?_
    apply V_vV (Y := mX6_day) (pc := 16) dX6_day_16 ok_X6_lays ov_X6_lays ln_X6_196 (cm_lays hM hG0 h7)
    · assumption
    · rfl
    · rfl
    · rfl
    · rfl
    · rfl
    rintro w_16 ⟨g1, f1⟩
    have o16 := (f1 99 (by omega)).trans ho
    refine V_aload_n (Y := mX6_day) (pc := 19) dX6_day_19 rfl ?_
    apply V_vI (Y := mX6_day) (pc := 20) dX6_day_20 ok_X6_days ov_X6_days ln_X6_225 (cm_days (sp := spP ca rs) o16 ((f1 100 (by omega)).trans hb) hB hG0 hsp g1 ((f1 108 (by omega)).trans h8))
    · assumption
    · rfl
    · rfl
    · rfl
    · rfl
    · rfl
    rintro z_20 w_20 ⟨hz, o20, ⟨fr2, g2⟩, f2⟩
    have hL2 := g1.keep (f2 107 (by omega) (by omega))
    have hend := h0.frD o20 ⟨f, (f2 100 (by omega) (by omega)).trans ((f1 100 (by omega)).trans hb), hB⟩ (fun j p1 p2 p3 p4 => (f2 j p1 p4).trans (f1 j p3)) (by obtain ⟨ld2, q, -⟩ := hL2; exact ⟨ld2, q⟩) ⟨_, g2⟩
    refine V_istore_n (Y := mX6_day) (pc := 23) dX6_day_23 rfl ?_
    refine V_iload_n (Y := mX6_day) (pc := 24) dX6_day_24 rfl ?_
    refine V_if_ne (tgt := 32) (Y := mX6_day) (pc := 25) dX6_day_25 (by decide) ⟨by omega, by omega⟩ (fun h_25 => ?_) (fun h_25 => ?_)
    · refine V_aload_n (Y := mX6_day) (pc := 32) dX6_day_32 rfl ?_
      apply V_get (Y := mX6_day) (pc := 33) dX6_day_33 fl_X6_222
      · assumption
      · rfl
      refine V_iret (Y := mX6_day) (pc := 36) dX6_day_36 rfl (Nat.le_of_ble_eq_true rfl) (Nat.le_of_ble_eq_true rfl) ?_
      have ef : fDay (n, now, ca, po, fo, rs) a = if a = 0 then (dayR n ca rs 0 0).2 else (dayR n ca rs 0 0).1 := if_neg (fun q => q h_7)
      first
        | (rw [ef, if_pos h_25]
           refine pI_of ⟨by rw [hz, hdr], ?_, hend.2⟩
           rw [hz, show (fRunH (spP ca rs) n (hdB n rs) (rs 5).length 0 0 0 0 bF0).2.1 = (dayR n ca rs 0 0).2 by rw [hdr], tl1_ne (by omega), tl1_ne (by omega), tl1_ne (by omega)]
           exact hend.1)
        | (rw [ef, if_neg h_25]
           refine pI_of ⟨by rw [hdr], ?_, hend.2⟩
           rw [show (fRunH (spP ca rs) n (hdB n rs) (rs 5).length 0 0 0 0 bF0).1 = (dayR n ca rs 0 0).1 by rw [hdr], tl1_ne (by omega), tl1_ne (by omega), tl1_ne (by omega)]
           exact hend.1)
    · refine V_iload_n (Y := mX6_day) (pc := 28) dX6_day_28 rfl ?_
      refine V_goto (tgt := 36) (Y := mX6_day) (pc := 29) dX6_day_29 (by decide) ?_
      refine V_iret (Y := mX6_day) (pc := 36) dX6_day_36 rfl (Nat.le_of_ble_eq_true rfl) (Nat.le_of_ble_eq_true rfl) ?_
      have ef : fDay (n, now, ca, po, fo, rs) a = if a = 0 then (dayR n ca rs 0 0).2 else (dayR n ca rs 0 0).1 := if_neg (fun q => q h_7)
      first
        | (rw [ef, if_pos h_25]
           refine pI_of ⟨by rw [hz, hdr], ?_, hend.2⟩
           rw [hz, show (fRunH (spP ca rs) n (hdB n rs) (rs 5).length 0 0 0 0 bF0).2.1 = (dayR n ca rs 0 0).2 by rw [hdr], tl1_ne (by omega), tl1_ne (by omega), tl1_ne (by omega)]
           exact hend.1)
        | (rw [ef, if_neg h_25]
           refine pI_of ⟨by rw [hdr], ?_, hend.2⟩
           rw [show (fRunH (spP ca rs) n (hdB n rs) (rs 5).length 0 0 0 0 bF0).1 = (dayR n ca rs 0 0).1 by rw [hdr], tl1_ne (by omega), tl1_ne (by omega), tl1_ne (by omega)]
           exact hend.1)
  · refine V_aload_n (Y := mX6_day) (pc := 10) dX6_day_10 rfl ?_
    apply V_vI (Y := mX6_day) (pc := 11) dX6_day_11 ok_X6_bad ov_X6_bad ln_X6_79 (cm_bad ho hr hq)
    · assumption
    · rfl
    · rfl
    · rfl
    · rfl
    · rfl
    rintro z_9 w_9 ⟨hz2, g1, f1⟩
    subst hz2
    refine V_iret (Y := mX6_day) (pc := 14) dX6_day_14 rfl (Nat.le_of_ble_eq_true rfl) (Nat.le_of_ble_eq_true rfl) ?_
    rw [show fDay (n, now, ca, po, fo, rs) a = -2 from if_pos h_7]
    have hK' : MK w_9 0 (n, now, ca, po, fo, rs) (tq 0 (-2) (-2) rb) (tq 0 (-3) (-2) rn) (tq 0 (-4) (-2) rf) := ⟨⟨_, _, _, _, _, _, _, _, (f1 _ (by omega)).trans ho⟩, ⟨f, (f1 _ (by omega)).trans hb, hB⟩, g1, hq⟩
    rw [tq_0, tq_0, tq_0] at hK'
    have qq := h0.frB hK' (fun j a b => f1 j b)
    exact pI_of ⟨rfl, qq.1, qq.2⟩
set_option maxRecDepth 100000 in
theorem cm_swaps {a b sv : Int} (ho : w 99 = some (mO qt ty a0 sp0 tk vl mn fd sv)) (hb : w 100 = some (arI 98 f)) (ha : 0 ≤ a ∧ a ≤ 6) (hb2 : 0 ≤ b ∧ b ≤ 6) : Ctr mX6_swaps (rm 0) [.ref 99, vI a, vI b] nn w (pV (fun w' => w' 100 = some (arI 98 (va_up (va_up f (9 + a).toNat (f (9 + b).toNat)) (9 + b).toNat (f (9 + a).toNat))) ∧ ∀ j, j ≠ 100 → w' j = w j) nn) := by
  refine Ctr_of (lv := [some (.ref 99), some (vI a), some (vI b), none]) (by decide +kernel) rfl rfl ?_
  refine V_aload_n (Y := mX6_swaps) (pc := 0) dX6_swaps_0 rfl ?_
  apply V_get (Y := mX6_swaps) (pc := 1) dX6_swaps_1 fl_X6_7
  · assumption
  · rfl
  refine V_bipush (Y := mX6_swaps) (pc := 4) dX6_swaps_4 ⟨by decide, by decide⟩ ?_
  refine V_iload_n (Y := mX6_swaps) (pc := 6) dX6_swaps_6 rfl ?_
  refine V_iadd (Y := mX6_swaps) (pc := 7) dX6_swaps_7 ?_
  apply V_iald (Y := mX6_swaps) (pc := 8) dX6_swaps_8
  · assumption
  · exact ⟨by omega, by omega⟩
  · omega
  refine V_istore_n (Y := mX6_swaps) (pc := 9) dX6_swaps_9 rfl ?_
  refine V_aload_n (Y := mX6_swaps) (pc := 10) dX6_swaps_10 rfl ?_
  apply V_get (Y := mX6_swaps) (pc := 11) dX6_swaps_11 fl_X6_7
  · assumption
  · rfl
  refine V_bipush (Y := mX6_swaps) (pc := 14) dX6_swaps_14 ⟨by decide, by decide⟩ ?_
  refine V_iload_n (Y := mX6_swaps) (pc := 16) dX6_swaps_16 rfl ?_
  refine V_iadd (Y := mX6_swaps) (pc := 17) dX6_swaps_17 ?_
  refine V_aload_n (Y := mX6_swaps) (pc := 18) dX6_swaps_18 rfl ?_
  apply V_get (Y := mX6_swaps) (pc := 19) dX6_swaps_19 fl_X6_7
  · assumption
  · rfl
  refine V_bipush (Y := mX6_swaps) (pc := 22) dX6_swaps_22 ⟨by decide, by decide⟩ ?_
  refine V_iload_n (Y := mX6_swaps) (pc := 24) dX6_swaps_24 rfl ?_
  refine V_iadd (Y := mX6_swaps) (pc := 25) dX6_swaps_25 ?_
  apply V_iald (Y := mX6_swaps) (pc := 26) dX6_swaps_26
  · assumption
  · exact ⟨by omega, by omega⟩
  · omega
  apply V_iastW (Y := mX6_swaps) (pc := 27) dX6_swaps_27
  · assumption
  · exact ⟨by omega, by omega⟩
  · omega
  intro w_27 h_27 f_27
  have o27 := (f_27 99 (by omega)).trans ho
  refine V_aload_n (Y := mX6_swaps) (pc := 28) dX6_swaps_28 rfl ?_
  apply V_get (Y := mX6_swaps) (pc := 29) dX6_swaps_29 fl_X6_7
  · assumption
  · rfl
  refine V_bipush (Y := mX6_swaps) (pc := 32) dX6_swaps_32 ⟨by decide, by decide⟩ ?_
  refine V_iload_n (Y := mX6_swaps) (pc := 34) dX6_swaps_34 rfl ?_
  refine V_iadd (Y := mX6_swaps) (pc := 35) dX6_swaps_35 ?_
  refine V_iload_n (Y := mX6_swaps) (pc := 36) dX6_swaps_36 rfl ?_
  apply V_iastW (Y := mX6_swaps) (pc := 37) dX6_swaps_37
  · assumption
  · exact ⟨by omega, by omega⟩
  · omega
  intro w_37 h_37 f_37
  refine V_vret (Y := mX6_swaps) (pc := 38) dX6_swaps_38 rfl (Nat.le_of_ble_eq_true rfl) (Nat.le_of_ble_eq_true rfl) ?_
  exact pV_of ⟨h_37, fun j hj => (f_37 j hj).trans (f_27 j hj)⟩
theorem sw_good {a b : Int} (hG : vGood (n, now, ca, po, fo, rs)) (ha : isD n a) (hb : isD n b) : vGood (n, now, ca, po, fo, swR rs a b) := by
  have hgd := hG.un.2.2.2.2.2.1
  have ga := hgd.2 a ha.1 ha.2
  have gb := hgd.2 b hb.1 hb.2
  have h1 := hG.good1 a (rAt (rs 0) b)
  rw [show fGood (n, now, ca, po, fo, rs) a (rAt (rs 0) b) = (rAt (rs 0) a, (n, now, ca, po, fo, va_up rs 0 (rSet (rs 0) a (rAt (rs 0) b)))) from if_neg (fun q => q ⟨ha, by omega, by omega⟩)] at h1
  have h2 := h1.good1 b (rAt (rs 0) a)
  rw [show fGood (n, now, ca, po, fo, va_up rs 0 (rSet (rs 0) a (rAt (rs 0) b))) b (rAt (rs 0) a) = (rAt (rSet (rs 0) a (rAt (rs 0) b)) b, (n, now, ca, po, fo, swR rs a b)) from if_neg (fun q => q ⟨hb, by omega, by omega⟩)] at h2
  exact h2
theorem sw_book {a b : Int} (hB : BkOf f n now ca po fo rs) (hgd : gdOK n rs) (ha : isD n a) (hb : isD n b) (hab : a ≠ b) : BkOf (va_up (va_up f (9 + a).toNat (f (9 + b).toNat)) (9 + b).toNat (f (9 + a).toNat)) n now ca po fo (swR rs a b) := by
  have hl := hgd.1
  have h1 := BkOf.good (f' := va_up f (9 + a).toNat (f (9 + b).toNat)) (d := a) (g := rAt (rs 0) b) hB ha.1 (by omega) (by rw [va_up_self]; exact hB.2.2.1 b hb.1 (by omega)) (fun i hi => va_up_ne _ _ hi)
  have h2 := BkOf.good (f' := va_up (va_up f (9 + a).toNat (f (9 + b).toNat)) (9 + b).toNat (f (9 + a).toNat)) (d := b) (g := rAt (rs 0) a) h1 hb.1 (by show b < (rSet (rs 0) a (rAt (rs 0) b)).length; rw [rSet_len]; omega) (by rw [va_up_self]; exact hB.2.2.1 a ha.1 (by omega)) (fun i hi => va_up_ne _ _ hi)
  exact h2
def LT (w w' : vWd) (n now : Int) (ca po fo : Nat) (rs : Nat → List Int) (qt ty a0 sp0 tk vl mn fd : Int) (sp : Int → Int → Int) : Prop := (∃ sv, w' 99 = some (mO qt ty a0 sp0 tk vl mn fd sv)) ∧ (∃ f, w' 100 = some (arI 98 f) ∧ BkOf f n now ca po fo rs) ∧ LdM w' n sp ∧ (∃ fr, w' 108 = some (arI 2187 fr)) ∧ ∀ j, j ≠ 99 → j ≠ 100 → j ≠ 107 → j ≠ 108 → w' j = w j
set_option maxRecDepth 100000 in
theorem lpm_ldC {a b : Int} {p : Int × Int × Int} {op : Int × Int} {w' : vWd} {Q : vPost} (ha : 0 ≤ a ∧ a ≤ 6) (hb : 0 ≤ b ∧ b ≤ 6) (ho : w' 99 = some (mO qt ty a0 sp0 tk vl mn fd op.1)) (hr : (0 ≤ op.1 ∧ op.1 ≤ 10) ∧ 0 ≤ op.2 ∧ op.2 ≤ 21870) (hp : ldR p) (K : ∀ p' : Int × Int × Int, p' = (if p.2.1 < op.1 ∨ (op.1 = p.2.1 ∧ op.2 < p.2.2) then (10 * a + b, op) else p) → V mX6_laid (rm 6) Q 36 [some (.ref 99), some (vI p'.2.2), some (vI p'.2.1), some (vI p'.1), some (vI a), some (vI (b + 1)), none, none] [] nn w' 0 0) :
    V mX6_laid (rm 6) Q 69 [some (.ref 99), some (vI p.2.2), some (vI p.2.1), some (vI p.1), some (vI a), some (vI b), some (vI op.2), none] [] nn w' 0 0 := by
  obtain ⟨o1, o2⟩ := op
  obtain ⟨p1, p2, p3⟩ := p
  obtain ⟨r1, r2, r3⟩ := hp
  have r1 : -1 ≤ p1 := r1
  have r2 : 0 ≤ p2 ∧ p2 ≤ 10 := r2
  have r3 : 0 ≤ p3 ∧ p3 ≤ 21870 := r3
  have hr : (0 ≤ o1 ∧ o1 ≤ 10) ∧ 0 ≤ o2 ∧ o2 ≤ 21870 := hr
  have ho : w' 99 = some (mO qt ty a0 sp0 tk vl mn fd o1) := ho
  have K1 : (p2 < o1 ∨ (o1 = p2 ∧ o2 < p3)) → V mX6_laid (rm 6) Q 36 [some (.ref 99), some (vI o2), some (vI o1), some (vI (10 * a + b)), some (vI a), some (vI (b + 1)), none, none] [] nn w' 0 0 := fun q => K (10 * a + b, o1, o2) (if_pos q).symm
  have K0 : ¬ (p2 < o1 ∨ (o1 = p2 ∧ o2 < p3)) → V mX6_laid (rm 6) Q 36 [some (.ref 99), some (vI p3), some (vI p2), some (vI p1), some (vI a), some (vI (b + 1)), none, none] [] nn w' 0 0 := fun q => K (p1, p2, p3) (if_neg q).symm
  show V mX6_laid (rm 6) Q 69 [some (.ref 99), some (vI p3), some (vI p2), some (vI p1), some (vI a), some (vI b), some (vI o2), none] [] nn w' 0 0
  refine V_aload_n (Y := mX6_laid) (pc := 69) dX6_laid_69 rfl ?_
  apply V_get (Y := mX6_laid) (pc := 70) dX6_laid_70 fl_X6_222
  · assumption
  · rfl
  refine V_iload_n (Y := mX6_laid) (pc := 73) dX6_laid_73 rfl ?_
  refine V_icmp_gt (tgt := 91) (Y := mX6_laid) (pc := 74) dX6_laid_74 (by decide) ⟨by omega, by omega⟩ ⟨by omega, by omega⟩ (fun h_74 => ?_) (fun h_74 => ?_)
  · refine V_iconst (Y := mX6_laid) (pc := 91) dX6_laid_91 ?_
    refine V_goto (tgt := 96) (Y := mX6_laid) (pc := 92) dX6_laid_92 (by decide) ?_
    refine V_istore (Y := mX6_laid) (pc := 96) dX6_laid_96 rfl ?_
    refine V_iload (Y := mX6_laid) (pc := 98) dX6_laid_98 rfl ?_
    refine V_if_eq (tgt := 114) (Y := mX6_laid) (pc := 100) dX6_laid_100 (by decide) ⟨by omega, by omega⟩ (fun h_100 => ?_) (fun h_100 => ?_)
    · refine V_iload_n (Y := mX6_laid) (pc := 114) dX6_laid_114 rfl ?_
      refine V_istore_n (Y := mX6_laid) (pc := 115) dX6_laid_115 rfl ?_
      refine V_iload (Y := mX6_laid) (pc := 116) dX6_laid_116 rfl ?_
      refine V_if_eq (tgt := 126) (Y := mX6_laid) (pc := 118) dX6_laid_118 (by decide) ⟨by omega, by omega⟩ (fun h_118 => ?_) (fun h_118 => ?_)
      · refine V_iload_n (Y := mX6_laid) (pc := 126) dX6_laid_126 rfl ?_
        refine V_istore_n (Y := mX6_laid) (pc := 127) dX6_laid_127 rfl ?_
        refine V_iload (Y := mX6_laid) (pc := 128) dX6_laid_128 rfl ?_
        refine V_if_eq (tgt := 140) (Y := mX6_laid) (pc := 130) dX6_laid_130 (by decide) ⟨by omega, by omega⟩ (fun h_130 => ?_) (fun h_130 => ?_)
        · refine V_iload_n (Y := mX6_laid) (pc := 140) dX6_laid_140 rfl ?_
          refine V_istore_n (Y := mX6_laid) (pc := 141) dX6_laid_141 rfl ?_
          refine V_iinc (Y := mX6_laid) (pc := 142) dX6_laid_142 rfl rfl ?_
          refine V_goto (tgt := 36) (Y := mX6_laid) (pc := 145) dX6_laid_145 (by decide) ?_
          refine V_drop 6 (V_drop 7 ?_)
          first
            | (exfalso; omega)
            | exact K1 (by omega)
            | exact K0 (by omega)
        · refine V_aload_n (Y := mX6_laid) (pc := 133) dX6_laid_133 rfl ?_
          apply V_get (Y := mX6_laid) (pc := 134) dX6_laid_134 fl_X6_222
          · assumption
          · rfl
          refine V_goto (tgt := 141) (Y := mX6_laid) (pc := 137) dX6_laid_137 (by decide) ?_
          refine V_istore_n (Y := mX6_laid) (pc := 141) dX6_laid_141 rfl ?_
          refine V_iinc (Y := mX6_laid) (pc := 142) dX6_laid_142 rfl rfl ?_
          refine V_goto (tgt := 36) (Y := mX6_laid) (pc := 145) dX6_laid_145 (by decide) ?_
          refine V_drop 6 (V_drop 7 ?_)
          first
            | (exfalso; omega)
            | exact K1 (by omega)
            | exact K0 (by omega)
      · refine V_iload (Y := mX6_laid) (pc := 121) dX6_laid_121 rfl ?_
        refine V_goto (tgt := 127) (Y := mX6_laid) (pc := 123) dX6_laid_123 (by decide) ?_
        refine V_istore_n (Y := mX6_laid) (pc := 127) dX6_laid_127 rfl ?_
        refine V_iload (Y := mX6_laid) (pc := 128) dX6_laid_128 rfl ?_
        refine V_if_eq (tgt := 140) (Y := mX6_laid) (pc := 130) dX6_laid_130 (by decide) ⟨by omega, by omega⟩ (fun h_130 => ?_) (fun h_130 => ?_)
        · refine V_iload_n (Y := mX6_laid) (pc := 140) dX6_laid_140 rfl ?_
          refine V_istore_n (Y := mX6_laid) (pc := 141) dX6_laid_141 rfl ?_
          refine V_iinc (Y := mX6_laid) (pc := 142) dX6_laid_142 rfl rfl ?_
          refine V_goto (tgt := 36) (Y := mX6_laid) (pc := 145) dX6_laid_145 (by decide) ?_
          refine V_drop 6 (V_drop 7 ?_)
          first
            | (exfalso; omega)
            | exact K1 (by omega)
            | exact K0 (by omega)
        · refine V_aload_n (Y := mX6_laid) (pc := 133) dX6_laid_133 rfl ?_
          apply V_get (Y := mX6_laid) (pc := 134) dX6_laid_134 fl_X6_222
          · assumption
          · rfl
          refine V_goto (tgt := 141) (Y := mX6_laid) (pc := 137) dX6_laid_137 (by decide) ?_
          refine V_istore_n (Y := mX6_laid) (pc := 141) dX6_laid_141 rfl ?_
          refine V_iinc (Y := mX6_laid) (pc := 142) dX6_laid_142 rfl rfl ?_
          refine V_goto (tgt := 36) (Y := mX6_laid) (pc := 145) dX6_laid_145 (by decide) ?_
          refine V_drop 6 (V_drop 7 ?_)
          first
            | (exfalso; omega)
            | exact K1 (by omega)
            | exact K0 (by omega)
    · refine V_bipush (Y := mX6_laid) (pc := 103) dX6_laid_103 ⟨by decide, by decide⟩ ?_
      refine V_iload (Y := mX6_laid) (pc := 105) dX6_laid_105 rfl ?_
      refine V_imul (Y := mX6_laid) (pc := 107) dX6_laid_107 ?_
      refine V_iload (Y := mX6_laid) (pc := 108) dX6_laid_108 rfl ?_
      refine V_iadd (Y := mX6_laid) (pc := 110) dX6_laid_110 ?_
      refine V_goto (tgt := 115) (Y := mX6_laid) (pc := 111) dX6_laid_111 (by decide) ?_
      refine V_istore_n (Y := mX6_laid) (pc := 115) dX6_laid_115 rfl ?_
      refine V_iload (Y := mX6_laid) (pc := 116) dX6_laid_116 rfl ?_
      refine V_if_eq (tgt := 126) (Y := mX6_laid) (pc := 118) dX6_laid_118 (by decide) ⟨by omega, by omega⟩ (fun h_118 => ?_) (fun h_118 => ?_)
      · refine V_iload_n (Y := mX6_laid) (pc := 126) dX6_laid_126 rfl ?_
        refine V_istore_n (Y := mX6_laid) (pc := 127) dX6_laid_127 rfl ?_
        refine V_iload (Y := mX6_laid) (pc := 128) dX6_laid_128 rfl ?_
        refine V_if_eq (tgt := 140) (Y := mX6_laid) (pc := 130) dX6_laid_130 (by decide) ⟨by omega, by omega⟩ (fun h_130 => ?_) (fun h_130 => ?_)
        · refine V_iload_n (Y := mX6_laid) (pc := 140) dX6_laid_140 rfl ?_
          refine V_istore_n (Y := mX6_laid) (pc := 141) dX6_laid_141 rfl ?_
          refine V_iinc (Y := mX6_laid) (pc := 142) dX6_laid_142 rfl rfl ?_
          refine V_goto (tgt := 36) (Y := mX6_laid) (pc := 145) dX6_laid_145 (by decide) ?_
          refine V_drop 6 (V_drop 7 ?_)
          first
            | (exfalso; omega)
            | exact K1 (by omega)
            | exact K0 (by omega)
        · refine V_aload_n (Y := mX6_laid) (pc := 133) dX6_laid_133 rfl ?_
          apply V_get (Y := mX6_laid) (pc := 134) dX6_laid_134 fl_X6_222
          · assumption
          · rfl
          refine V_goto (tgt := 141) (Y := mX6_laid) (pc := 137) dX6_laid_137 (by decide) ?_
          refine V_istore_n (Y := mX6_laid) (pc := 141) dX6_laid_141 rfl ?_
          refine V_iinc (Y := mX6_laid) (pc := 142) dX6_laid_142 rfl rfl ?_
          refine V_goto (tgt := 36) (Y := mX6_laid) (pc := 145) dX6_laid_145 (by decide) ?_
          refine V_drop 6 (V_drop 7 ?_)
          first
            | (exfalso; omega)
            | exact K1 (by omega)
            | exact K0 (by omega)
      · refine V_iload (Y := mX6_laid) (pc := 121) dX6_laid_121 rfl ?_
        refine V_goto (tgt := 127) (Y := mX6_laid) (pc := 123) dX6_laid_123 (by decide) ?_
        refine V_istore_n (Y := mX6_laid) (pc := 127) dX6_laid_127 rfl ?_
        refine V_iload (Y := mX6_laid) (pc := 128) dX6_laid_128 rfl ?_
        refine V_if_eq (tgt := 140) (Y := mX6_laid) (pc := 130) dX6_laid_130 (by decide) ⟨by omega, by omega⟩ (fun h_130 => ?_) (fun h_130 => ?_)
        · refine V_iload_n (Y := mX6_laid) (pc := 140) dX6_laid_140 rfl ?_
          refine V_istore_n (Y := mX6_laid) (pc := 141) dX6_laid_141 rfl ?_
          refine V_iinc (Y := mX6_laid) (pc := 142) dX6_laid_142 rfl rfl ?_
          refine V_goto (tgt := 36) (Y := mX6_laid) (pc := 145) dX6_laid_145 (by decide) ?_
          refine V_drop 6 (V_drop 7 ?_)
          first
            | (exfalso; omega)
            | exact K1 (by omega)
            | exact K0 (by omega)
        · refine V_aload_n (Y := mX6_laid) (pc := 133) dX6_laid_133 rfl ?_
          apply V_get (Y := mX6_laid) (pc := 134) dX6_laid_134 fl_X6_222
          · assumption
          · rfl
          refine V_goto (tgt := 141) (Y := mX6_laid) (pc := 137) dX6_laid_137 (by decide) ?_
          refine V_istore_n (Y := mX6_laid) (pc := 141) dX6_laid_141 rfl ?_
          refine V_iinc (Y := mX6_laid) (pc := 142) dX6_laid_142 rfl rfl ?_
          refine V_goto (tgt := 36) (Y := mX6_laid) (pc := 145) dX6_laid_145 (by decide) ?_
          refine V_drop 6 (V_drop 7 ?_)
          first
            | (exfalso; omega)
            | exact K1 (by omega)
            | exact K0 (by omega)
  · refine V_aload_n (Y := mX6_laid) (pc := 77) dX6_laid_77 rfl ?_
    apply V_get (Y := mX6_laid) (pc := 78) dX6_laid_78 fl_X6_222
    · assumption
    · rfl
    refine V_iload_n (Y := mX6_laid) (pc := 81) dX6_laid_81 rfl ?_
    refine V_icmp_ne (tgt := 95) (Y := mX6_laid) (pc := 82) dX6_laid_82 (by decide) ⟨by omega, by omega⟩ ⟨by omega, by omega⟩ (fun h_82 => ?_) (fun h_82 => ?_)
    · refine V_iconst (Y := mX6_laid) (pc := 95) dX6_laid_95 ?_
      refine V_istore (Y := mX6_laid) (pc := 96) dX6_laid_96 rfl ?_
      refine V_iload (Y := mX6_laid) (pc := 98) dX6_laid_98 rfl ?_
      refine V_if_eq (tgt := 114) (Y := mX6_laid) (pc := 100) dX6_laid_100 (by decide) ⟨by omega, by omega⟩ (fun h_100 => ?_) (fun h_100 => ?_)
      · refine V_iload_n (Y := mX6_laid) (pc := 114) dX6_laid_114 rfl ?_
        refine V_istore_n (Y := mX6_laid) (pc := 115) dX6_laid_115 rfl ?_
        refine V_iload (Y := mX6_laid) (pc := 116) dX6_laid_116 rfl ?_
        refine V_if_eq (tgt := 126) (Y := mX6_laid) (pc := 118) dX6_laid_118 (by decide) ⟨by omega, by omega⟩ (fun h_118 => ?_) (fun h_118 => ?_)
        · refine V_iload_n (Y := mX6_laid) (pc := 126) dX6_laid_126 rfl ?_
          refine V_istore_n (Y := mX6_laid) (pc := 127) dX6_laid_127 rfl ?_
          refine V_iload (Y := mX6_laid) (pc := 128) dX6_laid_128 rfl ?_
          refine V_if_eq (tgt := 140) (Y := mX6_laid) (pc := 130) dX6_laid_130 (by decide) ⟨by omega, by omega⟩ (fun h_130 => ?_) (fun h_130 => ?_)
          · refine V_iload_n (Y := mX6_laid) (pc := 140) dX6_laid_140 rfl ?_
            refine V_istore_n (Y := mX6_laid) (pc := 141) dX6_laid_141 rfl ?_
            refine V_iinc (Y := mX6_laid) (pc := 142) dX6_laid_142 rfl rfl ?_
            refine V_goto (tgt := 36) (Y := mX6_laid) (pc := 145) dX6_laid_145 (by decide) ?_
            refine V_drop 6 (V_drop 7 ?_)
            first
              | (exfalso; omega)
              | exact K1 (by omega)
              | exact K0 (by omega)
          · refine V_aload_n (Y := mX6_laid) (pc := 133) dX6_laid_133 rfl ?_
            apply V_get (Y := mX6_laid) (pc := 134) dX6_laid_134 fl_X6_222
            · assumption
            · rfl
            refine V_goto (tgt := 141) (Y := mX6_laid) (pc := 137) dX6_laid_137 (by decide) ?_
            refine V_istore_n (Y := mX6_laid) (pc := 141) dX6_laid_141 rfl ?_
            refine V_iinc (Y := mX6_laid) (pc := 142) dX6_laid_142 rfl rfl ?_
            refine V_goto (tgt := 36) (Y := mX6_laid) (pc := 145) dX6_laid_145 (by decide) ?_
            refine V_drop 6 (V_drop 7 ?_)
            first
              | (exfalso; omega)
              | exact K1 (by omega)
              | exact K0 (by omega)
        · refine V_iload (Y := mX6_laid) (pc := 121) dX6_laid_121 rfl ?_
          refine V_goto (tgt := 127) (Y := mX6_laid) (pc := 123) dX6_laid_123 (by decide) ?_
          refine V_istore_n (Y := mX6_laid) (pc := 127) dX6_laid_127 rfl ?_
          refine V_iload (Y := mX6_laid) (pc := 128) dX6_laid_128 rfl ?_
          refine V_if_eq (tgt := 140) (Y := mX6_laid) (pc := 130) dX6_laid_130 (by decide) ⟨by omega, by omega⟩ (fun h_130 => ?_) (fun h_130 => ?_)
          · refine V_iload_n (Y := mX6_laid) (pc := 140) dX6_laid_140 rfl ?_
            refine V_istore_n (Y := mX6_laid) (pc := 141) dX6_laid_141 rfl ?_
            refine V_iinc (Y := mX6_laid) (pc := 142) dX6_laid_142 rfl rfl ?_
            refine V_goto (tgt := 36) (Y := mX6_laid) (pc := 145) dX6_laid_145 (by decide) ?_
            refine V_drop 6 (V_drop 7 ?_)
            first
              | (exfalso; omega)
              | exact K1 (by omega)
              | exact K0 (by omega)
          · refine V_aload_n (Y := mX6_laid) (pc := 133) dX6_laid_133 rfl ?_
            apply V_get (Y := mX6_laid) (pc := 134) dX6_laid_134 fl_X6_222
            · assumption
            · rfl
            refine V_goto (tgt := 141) (Y := mX6_laid) (pc := 137) dX6_laid_137 (by decide) ?_
            refine V_istore_n (Y := mX6_laid) (pc := 141) dX6_laid_141 rfl ?_
            refine V_iinc (Y := mX6_laid) (pc := 142) dX6_laid_142 rfl rfl ?_
            refine V_goto (tgt := 36) (Y := mX6_laid) (pc := 145) dX6_laid_145 (by decide) ?_
            refine V_drop 6 (V_drop 7 ?_)
            first
              | (exfalso; omega)
              | exact K1 (by omega)
              | exact K0 (by omega)
      · refine V_bipush (Y := mX6_laid) (pc := 103) dX6_laid_103 ⟨by decide, by decide⟩ ?_
        refine V_iload (Y := mX6_laid) (pc := 105) dX6_laid_105 rfl ?_
        refine V_imul (Y := mX6_laid) (pc := 107) dX6_laid_107 ?_
        refine V_iload (Y := mX6_laid) (pc := 108) dX6_laid_108 rfl ?_
        refine V_iadd (Y := mX6_laid) (pc := 110) dX6_laid_110 ?_
        refine V_goto (tgt := 115) (Y := mX6_laid) (pc := 111) dX6_laid_111 (by decide) ?_
        refine V_istore_n (Y := mX6_laid) (pc := 115) dX6_laid_115 rfl ?_
        refine V_iload (Y := mX6_laid) (pc := 116) dX6_laid_116 rfl ?_
        refine V_if_eq (tgt := 126) (Y := mX6_laid) (pc := 118) dX6_laid_118 (by decide) ⟨by omega, by omega⟩ (fun h_118 => ?_) (fun h_118 => ?_)
        · refine V_iload_n (Y := mX6_laid) (pc := 126) dX6_laid_126 rfl ?_
          refine V_istore_n (Y := mX6_laid) (pc := 127) dX6_laid_127 rfl ?_
          refine V_iload (Y := mX6_laid) (pc := 128) dX6_laid_128 rfl ?_
          refine V_if_eq (tgt := 140) (Y := mX6_laid) (pc := 130) dX6_laid_130 (by decide) ⟨by omega, by omega⟩ (fun h_130 => ?_) (fun h_130 => ?_)
          · refine V_iload_n (Y := mX6_laid) (pc := 140) dX6_laid_140 rfl ?_
            refine V_istore_n (Y := mX6_laid) (pc := 141) dX6_laid_141 rfl ?_
            refine V_iinc (Y := mX6_laid) (pc := 142) dX6_laid_142 rfl rfl ?_
            refine V_goto (tgt := 36) (Y := mX6_laid) (pc := 145) dX6_laid_145 (by decide) ?_
            refine V_drop 6 (V_drop 7 ?_)
            first
              | (exfalso; omega)
              | exact K1 (by omega)
              | exact K0 (by omega)
          · refine V_aload_n (Y := mX6_laid) (pc := 133) dX6_laid_133 rfl ?_
            apply V_get (Y := mX6_laid) (pc := 134) dX6_laid_134 fl_X6_222
            · assumption
            · rfl
            refine V_goto (tgt := 141) (Y := mX6_laid) (pc := 137) dX6_laid_137 (by decide) ?_
            refine V_istore_n (Y := mX6_laid) (pc := 141) dX6_laid_141 rfl ?_
            refine V_iinc (Y := mX6_laid) (pc := 142) dX6_laid_142 rfl rfl ?_
            refine V_goto (tgt := 36) (Y := mX6_laid) (pc := 145) dX6_laid_145 (by decide) ?_
            refine V_drop 6 (V_drop 7 ?_)
            first
              | (exfalso; omega)
              | exact K1 (by omega)
              | exact K0 (by omega)
        · refine V_iload (Y := mX6_laid) (pc := 121) dX6_laid_121 rfl ?_
          refine V_goto (tgt := 127) (Y := mX6_laid) (pc := 123) dX6_laid_123 (by decide) ?_
          refine V_istore_n (Y := mX6_laid) (pc := 127) dX6_laid_127 rfl ?_
          refine V_iload (Y := mX6_laid) (pc := 128) dX6_laid_128 rfl ?_
          refine V_if_eq (tgt := 140) (Y := mX6_laid) (pc := 130) dX6_laid_130 (by decide) ⟨by omega, by omega⟩ (fun h_130 => ?_) (fun h_130 => ?_)
          · refine V_iload_n (Y := mX6_laid) (pc := 140) dX6_laid_140 rfl ?_
            refine V_istore_n (Y := mX6_laid) (pc := 141) dX6_laid_141 rfl ?_
            refine V_iinc (Y := mX6_laid) (pc := 142) dX6_laid_142 rfl rfl ?_
            refine V_goto (tgt := 36) (Y := mX6_laid) (pc := 145) dX6_laid_145 (by decide) ?_
            refine V_drop 6 (V_drop 7 ?_)
            first
              | (exfalso; omega)
              | exact K1 (by omega)
              | exact K0 (by omega)
          · refine V_aload_n (Y := mX6_laid) (pc := 133) dX6_laid_133 rfl ?_
            apply V_get (Y := mX6_laid) (pc := 134) dX6_laid_134 fl_X6_222
            · assumption
            · rfl
            refine V_goto (tgt := 141) (Y := mX6_laid) (pc := 137) dX6_laid_137 (by decide) ?_
            refine V_istore_n (Y := mX6_laid) (pc := 141) dX6_laid_141 rfl ?_
            refine V_iinc (Y := mX6_laid) (pc := 142) dX6_laid_142 rfl rfl ?_
            refine V_goto (tgt := 36) (Y := mX6_laid) (pc := 145) dX6_laid_145 (by decide) ?_
            refine V_drop 6 (V_drop 7 ?_)
            first
              | (exfalso; omega)
              | exact K1 (by omega)
              | exact K0 (by omega)
    · refine V_iload (Y := mX6_laid) (pc := 85) dX6_laid_85 rfl ?_
      refine V_iload_n (Y := mX6_laid) (pc := 87) dX6_laid_87 rfl ?_
      refine V_icmp_ge (tgt := 95) (Y := mX6_laid) (pc := 88) dX6_laid_88 (by decide) ⟨by omega, by omega⟩ ⟨by omega, by omega⟩ (fun h_88 => ?_) (fun h_88 => ?_)
      · refine V_iconst (Y := mX6_laid) (pc := 95) dX6_laid_95 ?_
        refine V_istore (Y := mX6_laid) (pc := 96) dX6_laid_96 rfl ?_
        refine V_iload (Y := mX6_laid) (pc := 98) dX6_laid_98 rfl ?_
        refine V_if_eq (tgt := 114) (Y := mX6_laid) (pc := 100) dX6_laid_100 (by decide) ⟨by omega, by omega⟩ (fun h_100 => ?_) (fun h_100 => ?_)
        · refine V_iload_n (Y := mX6_laid) (pc := 114) dX6_laid_114 rfl ?_
          refine V_istore_n (Y := mX6_laid) (pc := 115) dX6_laid_115 rfl ?_
          refine V_iload (Y := mX6_laid) (pc := 116) dX6_laid_116 rfl ?_
          refine V_if_eq (tgt := 126) (Y := mX6_laid) (pc := 118) dX6_laid_118 (by decide) ⟨by omega, by omega⟩ (fun h_118 => ?_) (fun h_118 => ?_)
          · refine V_iload_n (Y := mX6_laid) (pc := 126) dX6_laid_126 rfl ?_
            refine V_istore_n (Y := mX6_laid) (pc := 127) dX6_laid_127 rfl ?_
            refine V_iload (Y := mX6_laid) (pc := 128) dX6_laid_128 rfl ?_
            refine V_if_eq (tgt := 140) (Y := mX6_laid) (pc := 130) dX6_laid_130 (by decide) ⟨by omega, by omega⟩ (fun h_130 => ?_) (fun h_130 => ?_)
            · refine V_iload_n (Y := mX6_laid) (pc := 140) dX6_laid_140 rfl ?_
              refine V_istore_n (Y := mX6_laid) (pc := 141) dX6_laid_141 rfl ?_
              refine V_iinc (Y := mX6_laid) (pc := 142) dX6_laid_142 rfl rfl ?_
              refine V_goto (tgt := 36) (Y := mX6_laid) (pc := 145) dX6_laid_145 (by decide) ?_
              refine V_drop 6 (V_drop 7 ?_)
              first
                | (exfalso; omega)
                | exact K1 (by omega)
                | exact K0 (by omega)
            · refine V_aload_n (Y := mX6_laid) (pc := 133) dX6_laid_133 rfl ?_
              apply V_get (Y := mX6_laid) (pc := 134) dX6_laid_134 fl_X6_222
              · assumption
              · rfl
              refine V_goto (tgt := 141) (Y := mX6_laid) (pc := 137) dX6_laid_137 (by decide) ?_
              refine V_istore_n (Y := mX6_laid) (pc := 141) dX6_laid_141 rfl ?_
              refine V_iinc (Y := mX6_laid) (pc := 142) dX6_laid_142 rfl rfl ?_
              refine V_goto (tgt := 36) (Y := mX6_laid) (pc := 145) dX6_laid_145 (by decide) ?_
              refine V_drop 6 (V_drop 7 ?_)
              first
                | (exfalso; omega)
                | exact K1 (by omega)
                | exact K0 (by omega)
          · refine V_iload (Y := mX6_laid) (pc := 121) dX6_laid_121 rfl ?_
            refine V_goto (tgt := 127) (Y := mX6_laid) (pc := 123) dX6_laid_123 (by decide) ?_
            refine V_istore_n (Y := mX6_laid) (pc := 127) dX6_laid_127 rfl ?_
            refine V_iload (Y := mX6_laid) (pc := 128) dX6_laid_128 rfl ?_
            refine V_if_eq (tgt := 140) (Y := mX6_laid) (pc := 130) dX6_laid_130 (by decide) ⟨by omega, by omega⟩ (fun h_130 => ?_) (fun h_130 => ?_)
            · refine V_iload_n (Y := mX6_laid) (pc := 140) dX6_laid_140 rfl ?_
              refine V_istore_n (Y := mX6_laid) (pc := 141) dX6_laid_141 rfl ?_
              refine V_iinc (Y := mX6_laid) (pc := 142) dX6_laid_142 rfl rfl ?_
              refine V_goto (tgt := 36) (Y := mX6_laid) (pc := 145) dX6_laid_145 (by decide) ?_
              refine V_drop 6 (V_drop 7 ?_)
              first
                | (exfalso; omega)
                | exact K1 (by omega)
                | exact K0 (by omega)
            · refine V_aload_n (Y := mX6_laid) (pc := 133) dX6_laid_133 rfl ?_
              apply V_get (Y := mX6_laid) (pc := 134) dX6_laid_134 fl_X6_222
              · assumption
              · rfl
              refine V_goto (tgt := 141) (Y := mX6_laid) (pc := 137) dX6_laid_137 (by decide) ?_
              refine V_istore_n (Y := mX6_laid) (pc := 141) dX6_laid_141 rfl ?_
              refine V_iinc (Y := mX6_laid) (pc := 142) dX6_laid_142 rfl rfl ?_
              refine V_goto (tgt := 36) (Y := mX6_laid) (pc := 145) dX6_laid_145 (by decide) ?_
              refine V_drop 6 (V_drop 7 ?_)
              first
                | (exfalso; omega)
                | exact K1 (by omega)
                | exact K0 (by omega)
        · refine V_bipush (Y := mX6_laid) (pc := 103) dX6_laid_103 ⟨by decide, by decide⟩ ?_
          refine V_iload (Y := mX6_laid) (pc := 105) dX6_laid_105 rfl ?_
          refine V_imul (Y := mX6_laid) (pc := 107) dX6_laid_107 ?_
          refine V_iload (Y := mX6_laid) (pc := 108) dX6_laid_108 rfl ?_
          refine V_iadd (Y := mX6_laid) (pc := 110) dX6_laid_110 ?_
          refine V_goto (tgt := 115) (Y := mX6_laid) (pc := 111) dX6_laid_111 (by decide) ?_
          refine V_istore_n (Y := mX6_laid) (pc := 115) dX6_laid_115 rfl ?_
          refine V_iload (Y := mX6_laid) (pc := 116) dX6_laid_116 rfl ?_
          refine V_if_eq (tgt := 126) (Y := mX6_laid) (pc := 118) dX6_laid_118 (by decide) ⟨by omega, by omega⟩ (fun h_118 => ?_) (fun h_118 => ?_)
          · refine V_iload_n (Y := mX6_laid) (pc := 126) dX6_laid_126 rfl ?_
            refine V_istore_n (Y := mX6_laid) (pc := 127) dX6_laid_127 rfl ?_
            refine V_iload (Y := mX6_laid) (pc := 128) dX6_laid_128 rfl ?_
            refine V_if_eq (tgt := 140) (Y := mX6_laid) (pc := 130) dX6_laid_130 (by decide) ⟨by omega, by omega⟩ (fun h_130 => ?_) (fun h_130 => ?_)
            · refine V_iload_n (Y := mX6_laid) (pc := 140) dX6_laid_140 rfl ?_
              refine V_istore_n (Y := mX6_laid) (pc := 141) dX6_laid_141 rfl ?_
              refine V_iinc (Y := mX6_laid) (pc := 142) dX6_laid_142 rfl rfl ?_
              refine V_goto (tgt := 36) (Y := mX6_laid) (pc := 145) dX6_laid_145 (by decide) ?_
              refine V_drop 6 (V_drop 7 ?_)
              first
                | (exfalso; omega)
                | exact K1 (by omega)
                | exact K0 (by omega)
            · refine V_aload_n (Y := mX6_laid) (pc := 133) dX6_laid_133 rfl ?_
              apply V_get (Y := mX6_laid) (pc := 134) dX6_laid_134 fl_X6_222
              · assumption
              · rfl
              refine V_goto (tgt := 141) (Y := mX6_laid) (pc := 137) dX6_laid_137 (by decide) ?_
              refine V_istore_n (Y := mX6_laid) (pc := 141) dX6_laid_141 rfl ?_
              refine V_iinc (Y := mX6_laid) (pc := 142) dX6_laid_142 rfl rfl ?_
              refine V_goto (tgt := 36) (Y := mX6_laid) (pc := 145) dX6_laid_145 (by decide) ?_
              refine V_drop 6 (V_drop 7 ?_)
              first
                | (exfalso; omega)
                | exact K1 (by omega)
                | exact K0 (by omega)
          · refine V_iload (Y := mX6_laid) (pc := 121) dX6_laid_121 rfl ?_
            refine V_goto (tgt := 127) (Y := mX6_laid) (pc := 123) dX6_laid_123 (by decide) ?_
            refine V_istore_n (Y := mX6_laid) (pc := 127) dX6_laid_127 rfl ?_
            refine V_iload (Y := mX6_laid) (pc := 128) dX6_laid_128 rfl ?_
            refine V_if_eq (tgt := 140) (Y := mX6_laid) (pc := 130) dX6_laid_130 (by decide) ⟨by omega, by omega⟩ (fun h_130 => ?_) (fun h_130 => ?_)
            · refine V_iload_n (Y := mX6_laid) (pc := 140) dX6_laid_140 rfl ?_
              refine V_istore_n (Y := mX6_laid) (pc := 141) dX6_laid_141 rfl ?_
              refine V_iinc (Y := mX6_laid) (pc := 142) dX6_laid_142 rfl rfl ?_
              refine V_goto (tgt := 36) (Y := mX6_laid) (pc := 145) dX6_laid_145 (by decide) ?_
              refine V_drop 6 (V_drop 7 ?_)
              first
                | (exfalso; omega)
                | exact K1 (by omega)
                | exact K0 (by omega)
            · refine V_aload_n (Y := mX6_laid) (pc := 133) dX6_laid_133 rfl ?_
              apply V_get (Y := mX6_laid) (pc := 134) dX6_laid_134 fl_X6_222
              · assumption
              · rfl
              refine V_goto (tgt := 141) (Y := mX6_laid) (pc := 137) dX6_laid_137 (by decide) ?_
              refine V_istore_n (Y := mX6_laid) (pc := 141) dX6_laid_141 rfl ?_
              refine V_iinc (Y := mX6_laid) (pc := 142) dX6_laid_142 rfl rfl ?_
              refine V_goto (tgt := 36) (Y := mX6_laid) (pc := 145) dX6_laid_145 (by decide) ?_
              refine V_drop 6 (V_drop 7 ?_)
              first
                | (exfalso; omega)
                | exact K1 (by omega)
                | exact K0 (by omega)
      · refine V_iconst (Y := mX6_laid) (pc := 91) dX6_laid_91 ?_
        refine V_goto (tgt := 96) (Y := mX6_laid) (pc := 92) dX6_laid_92 (by decide) ?_
        refine V_istore (Y := mX6_laid) (pc := 96) dX6_laid_96 rfl ?_
        refine V_iload (Y := mX6_laid) (pc := 98) dX6_laid_98 rfl ?_
        refine V_if_eq (tgt := 114) (Y := mX6_laid) (pc := 100) dX6_laid_100 (by decide) ⟨by omega, by omega⟩ (fun h_100 => ?_) (fun h_100 => ?_)
        · refine V_iload_n (Y := mX6_laid) (pc := 114) dX6_laid_114 rfl ?_
          refine V_istore_n (Y := mX6_laid) (pc := 115) dX6_laid_115 rfl ?_
          refine V_iload (Y := mX6_laid) (pc := 116) dX6_laid_116 rfl ?_
          refine V_if_eq (tgt := 126) (Y := mX6_laid) (pc := 118) dX6_laid_118 (by decide) ⟨by omega, by omega⟩ (fun h_118 => ?_) (fun h_118 => ?_)
          · refine V_iload_n (Y := mX6_laid) (pc := 126) dX6_laid_126 rfl ?_
            refine V_istore_n (Y := mX6_laid) (pc := 127) dX6_laid_127 rfl ?_
            refine V_iload (Y := mX6_laid) (pc := 128) dX6_laid_128 rfl ?_
            refine V_if_eq (tgt := 140) (Y := mX6_laid) (pc := 130) dX6_laid_130 (by decide) ⟨by omega, by omega⟩ (fun h_130 => ?_) (fun h_130 => ?_)
            · refine V_iload_n (Y := mX6_laid) (pc := 140) dX6_laid_140 rfl ?_
              refine V_istore_n (Y := mX6_laid) (pc := 141) dX6_laid_141 rfl ?_
              refine V_iinc (Y := mX6_laid) (pc := 142) dX6_laid_142 rfl rfl ?_
              refine V_goto (tgt := 36) (Y := mX6_laid) (pc := 145) dX6_laid_145 (by decide) ?_
              refine V_drop 6 (V_drop 7 ?_)
              first
                | (exfalso; omega)
                | exact K1 (by omega)
                | exact K0 (by omega)
            · refine V_aload_n (Y := mX6_laid) (pc := 133) dX6_laid_133 rfl ?_
              apply V_get (Y := mX6_laid) (pc := 134) dX6_laid_134 fl_X6_222
              · assumption
              · rfl
              refine V_goto (tgt := 141) (Y := mX6_laid) (pc := 137) dX6_laid_137 (by decide) ?_
              refine V_istore_n (Y := mX6_laid) (pc := 141) dX6_laid_141 rfl ?_
              refine V_iinc (Y := mX6_laid) (pc := 142) dX6_laid_142 rfl rfl ?_
              refine V_goto (tgt := 36) (Y := mX6_laid) (pc := 145) dX6_laid_145 (by decide) ?_
              refine V_drop 6 (V_drop 7 ?_)
              first
                | (exfalso; omega)
                | exact K1 (by omega)
                | exact K0 (by omega)
          · refine V_iload (Y := mX6_laid) (pc := 121) dX6_laid_121 rfl ?_
            refine V_goto (tgt := 127) (Y := mX6_laid) (pc := 123) dX6_laid_123 (by decide) ?_
            refine V_istore_n (Y := mX6_laid) (pc := 127) dX6_laid_127 rfl ?_
            refine V_iload (Y := mX6_laid) (pc := 128) dX6_laid_128 rfl ?_
            refine V_if_eq (tgt := 140) (Y := mX6_laid) (pc := 130) dX6_laid_130 (by decide) ⟨by omega, by omega⟩ (fun h_130 => ?_) (fun h_130 => ?_)
            · refine V_iload_n (Y := mX6_laid) (pc := 140) dX6_laid_140 rfl ?_
              refine V_istore_n (Y := mX6_laid) (pc := 141) dX6_laid_141 rfl ?_
              refine V_iinc (Y := mX6_laid) (pc := 142) dX6_laid_142 rfl rfl ?_
              refine V_goto (tgt := 36) (Y := mX6_laid) (pc := 145) dX6_laid_145 (by decide) ?_
              refine V_drop 6 (V_drop 7 ?_)
              first
                | (exfalso; omega)
                | exact K1 (by omega)
                | exact K0 (by omega)
            · refine V_aload_n (Y := mX6_laid) (pc := 133) dX6_laid_133 rfl ?_
              apply V_get (Y := mX6_laid) (pc := 134) dX6_laid_134 fl_X6_222
              · assumption
              · rfl
              refine V_goto (tgt := 141) (Y := mX6_laid) (pc := 137) dX6_laid_137 (by decide) ?_
              refine V_istore_n (Y := mX6_laid) (pc := 141) dX6_laid_141 rfl ?_
              refine V_iinc (Y := mX6_laid) (pc := 142) dX6_laid_142 rfl rfl ?_
              refine V_goto (tgt := 36) (Y := mX6_laid) (pc := 145) dX6_laid_145 (by decide) ?_
              refine V_drop 6 (V_drop 7 ?_)
              first
                | (exfalso; omega)
                | exact K1 (by omega)
                | exact K0 (by omega)
        · refine V_bipush (Y := mX6_laid) (pc := 103) dX6_laid_103 ⟨by decide, by decide⟩ ?_
          refine V_iload (Y := mX6_laid) (pc := 105) dX6_laid_105 rfl ?_
          refine V_imul (Y := mX6_laid) (pc := 107) dX6_laid_107 ?_
          refine V_iload (Y := mX6_laid) (pc := 108) dX6_laid_108 rfl ?_
          refine V_iadd (Y := mX6_laid) (pc := 110) dX6_laid_110 ?_
          refine V_goto (tgt := 115) (Y := mX6_laid) (pc := 111) dX6_laid_111 (by decide) ?_
          refine V_istore_n (Y := mX6_laid) (pc := 115) dX6_laid_115 rfl ?_
          refine V_iload (Y := mX6_laid) (pc := 116) dX6_laid_116 rfl ?_
          refine V_if_eq (tgt := 126) (Y := mX6_laid) (pc := 118) dX6_laid_118 (by decide) ⟨by omega, by omega⟩ (fun h_118 => ?_) (fun h_118 => ?_)
          · refine V_iload_n (Y := mX6_laid) (pc := 126) dX6_laid_126 rfl ?_
            refine V_istore_n (Y := mX6_laid) (pc := 127) dX6_laid_127 rfl ?_
            refine V_iload (Y := mX6_laid) (pc := 128) dX6_laid_128 rfl ?_
            refine V_if_eq (tgt := 140) (Y := mX6_laid) (pc := 130) dX6_laid_130 (by decide) ⟨by omega, by omega⟩ (fun h_130 => ?_) (fun h_130 => ?_)
            · refine V_iload_n (Y := mX6_laid) (pc := 140) dX6_laid_140 rfl ?_
              refine V_istore_n (Y := mX6_laid) (pc := 141) dX6_laid_141 rfl ?_
              refine V_iinc (Y := mX6_laid) (pc := 142) dX6_laid_142 rfl rfl ?_
              refine V_goto (tgt := 36) (Y := mX6_laid) (pc := 145) dX6_laid_145 (by decide) ?_
              refine V_drop 6 (V_drop 7 ?_)
              first
                | (exfalso; omega)
                | exact K1 (by omega)
                | exact K0 (by omega)
            · refine V_aload_n (Y := mX6_laid) (pc := 133) dX6_laid_133 rfl ?_
              apply V_get (Y := mX6_laid) (pc := 134) dX6_laid_134 fl_X6_222
              · assumption
              · rfl
              refine V_goto (tgt := 141) (Y := mX6_laid) (pc := 137) dX6_laid_137 (by decide) ?_
              refine V_istore_n (Y := mX6_laid) (pc := 141) dX6_laid_141 rfl ?_
              refine V_iinc (Y := mX6_laid) (pc := 142) dX6_laid_142 rfl rfl ?_
              refine V_goto (tgt := 36) (Y := mX6_laid) (pc := 145) dX6_laid_145 (by decide) ?_
              refine V_drop 6 (V_drop 7 ?_)
              first
                | (exfalso; omega)
                | exact K1 (by omega)
                | exact K0 (by omega)
          · refine V_iload (Y := mX6_laid) (pc := 121) dX6_laid_121 rfl ?_
            refine V_goto (tgt := 127) (Y := mX6_laid) (pc := 123) dX6_laid_123 (by decide) ?_
            refine V_istore_n (Y := mX6_laid) (pc := 127) dX6_laid_127 rfl ?_
            refine V_iload (Y := mX6_laid) (pc := 128) dX6_laid_128 rfl ?_
            refine V_if_eq (tgt := 140) (Y := mX6_laid) (pc := 130) dX6_laid_130 (by decide) ⟨by omega, by omega⟩ (fun h_130 => ?_) (fun h_130 => ?_)
            · refine V_iload_n (Y := mX6_laid) (pc := 140) dX6_laid_140 rfl ?_
              refine V_istore_n (Y := mX6_laid) (pc := 141) dX6_laid_141 rfl ?_
              refine V_iinc (Y := mX6_laid) (pc := 142) dX6_laid_142 rfl rfl ?_
              refine V_goto (tgt := 36) (Y := mX6_laid) (pc := 145) dX6_laid_145 (by decide) ?_
              refine V_drop 6 (V_drop 7 ?_)
              first
                | (exfalso; omega)
                | exact K1 (by omega)
                | exact K0 (by omega)
            · refine V_aload_n (Y := mX6_laid) (pc := 133) dX6_laid_133 rfl ?_
              apply V_get (Y := mX6_laid) (pc := 134) dX6_laid_134 fl_X6_222
              · assumption
              · rfl
              refine V_goto (tgt := 141) (Y := mX6_laid) (pc := 137) dX6_laid_137 (by decide) ?_
              refine V_istore_n (Y := mX6_laid) (pc := 141) dX6_laid_141 rfl ?_
              refine V_iinc (Y := mX6_laid) (pc := 142) dX6_laid_142 rfl rfl ?_
              refine V_goto (tgt := 36) (Y := mX6_laid) (pc := 145) dX6_laid_145 (by decide) ?_
              refine V_drop 6 (V_drop 7 ?_)
              first
                | (exfalso; omega)
                | exact K1 (by omega)
                | exact K0 (by omega)
set_option maxRecDepth 100000 in
theorem lpm_ldS {a b : Int} {p : Int × Int × Int} {w' : vWd} {Q : vPost} (hG : vGood (n, now, ca, po, fo, rs)) (ha : isD n a) (hb : isD n b) (hab : a ≠ b) (hp : ldR p) (hbs : ¬ btr (dayR n ca rs 0 0) p.2) (hI : LT w w' n now ca po fo rs qt ty a0 sp0 tk vl mn fd (spP ca rs)) (K : ∀ w'', LT w w'' n now ca po fo rs qt ty a0 sp0 tk vl mn fd (spP ca rs) → V mX6_laid (rm 6) Q 36 [some (.ref 99), some (vI (ldSt (rs 0) (dayR n ca rs) a b p).2.2), some (vI (ldSt (rs 0) (dayR n ca rs) a b p).2.1), some (vI (ldSt (rs 0) (dayR n ca rs) a b p).1), some (vI a), some (vI (b + 1)), none, none] [] nn w'' 0 0) :
    V mX6_laid (rm 6) Q 47 [some (.ref 99), some (vI p.2.2), some (vI p.2.1), some (vI p.1), some (vI a), some (vI b), none, none] [] nn w' 0 0 := by
  have hG0 := hG
  obtain ⟨hn, hnow, hca, hpo, hfo, hgd, hcv, hor, hsg, hpast⟩ := hG.un
  obtain ⟨⟨sv, ho⟩, ⟨f, hb0, hB⟩, hL, ⟨fr, h8⟩, hf⟩ := hI
  have hl := hB.2.1
  have hG2 := sw_good hG0 ha hb
  have hB2 := sw_book hB hgd ha hb hab
  have hsp := spP_ok (ca := ca) hcv
  have hrg := dayR_rng (ca := ca) ⟨by omega, by omega⟩ hcv hl.2.1 a b
  have r5 : swR rs a b 5 = rs 5 := rfl
  have hdr : dayR n ca rs a b = ((fRunH (spP ca rs) n (hdB n (swR rs a b)) (swR rs a b 5).length 0 0 0 0 bF0).1, (fRunH (spP ca rs) n (hdB n (swR rs a b)) (swR rs a b 5).length 0 0 0 0 bF0).2.1) := by
    rw [r5, dayR_H, fRunH_congr (spP ca rs) n (N := (rs 5).length) (h1 := holdB n rs a b) (h2 := hdB n (swR rs a b)) (fun o _ _ => (hdB_swap hgd ha hb hab).symm) _ _ _ _ _ _ (by omega) (by omega)]
  have hst : ldSt (rs 0) (dayR n ca rs) a b p = if p.2.1 < (dayR n ca rs a b).1 ∨ ((dayR n ca rs a b).1 = p.2.1 ∧ (dayR n ca rs a b).2 < p.2.2) then (10 * a + b, dayR n ca rs a b) else p := by
    unfold ldSt
    by_cases he : rAt (rs 0) a = rAt (rs 0) b
    · have e0 : dayR n ca rs a b = dayR n ca rs 0 0 := by
        rw [dayR_H, dayR_H, fRunH_congr (spP ca rs) n (N := (rs 5).length) (h1 := holdB n rs a b) (h2 := holdB n rs 0 0) (fun o _ _ => hdB_same hgd ha hb he) _ _ _ _ _ _ (by omega) (by omega)]
      rw [if_pos he, e0]
      exact (if_neg hbs).symm
    · rw [if_neg he]
  refine V_aload_n (Y := mX6_laid) (pc := 47) dX6_laid_47 rfl ?_
  refine V_iload (Y := mX6_laid) (pc := 48) dX6_laid_48 rfl ?_
  refine V_iload (Y := mX6_laid) (pc := 50) dX6_laid_50 rfl ?_
  apply V_vV (Y := mX6_laid) (pc := 52) dX6_laid_52 ok_X6_swaps ov_X6_swaps ln_X6_228 (cm_swaps (a := a) (b := b) ho hb0 ⟨by omega, by omega⟩ ⟨by omega, by omega⟩)
  · assumption
  · rfl
  · rfl
  · rfl
  · rfl
  · rfl
  rintro w_52 ⟨g1, f1⟩
  have o52 := (f1 99 (by omega)).trans ho
  refine V_aload_n (Y := mX6_laid) (pc := 55) dX6_laid_55 rfl ?_
  apply V_vI (Y := mX6_laid) (pc := 56) dX6_laid_56 ok_X6_days ov_X6_days ln_X6_225 (cm_days (sp := spP ca rs) o52 g1 hB2 hG2 hsp (hL.keep (f1 107 (by omega))) ((f1 108 (by omega)).trans h8))
  · assumption
  · rfl
  · rfl
  · rfl
  · rfl
  · rfl
  rintro z_56 w_56 ⟨hz, o56, ⟨fr2, g2⟩, f2⟩
  have b56 := (f2 100 (by omega) (by omega)).trans g1
  refine V_istore (Y := mX6_laid) (pc := 59) dX6_laid_59 rfl ?_
  refine V_aload_n (Y := mX6_laid) (pc := 61) dX6_laid_61 rfl ?_
  refine V_iload (Y := mX6_laid) (pc := 62) dX6_laid_62 rfl ?_
  refine V_iload (Y := mX6_laid) (pc := 64) dX6_laid_64 rfl ?_
  apply V_vV (Y := mX6_laid) (pc := 66) dX6_laid_66 ok_X6_swaps ov_X6_swaps ln_X6_228 (cm_swaps (a := a) (b := b) o56 b56 ⟨by omega, by omega⟩ ⟨by omega, by omega⟩)
  · assumption
  · rfl
  · rfl
  · rfl
  · rfl
  · rfl
  rintro w_66 ⟨g3, f3⟩
  have o66 := (f3 99 (by omega)).trans o56
  rw [show (fRunH (spP ca rs) n (hdB n (swR rs a b)) (swR rs a b 5).length 0 0 0 0 bF0).1 = (dayR n ca rs a b).1 by rw [hdr]] at o66
  have hz : z_56 = (dayR n ca rs a b).2 := by rw [hz, hdr]
  subst hz
  refine lpm_ldC (op := dayR n ca rs a b) ⟨by omega, by omega⟩ ⟨by omega, by omega⟩ o66 hrg hp (fun p' hp' => ?_)
  rw [← hst] at hp'
  rw [hp']
  refine K w_66 ⟨⟨_, o66⟩, ⟨_, g3, BkS.ext (f := f) (S := (n, now, ca, po, fo, rs)) hB (fun i hi => ?_)⟩, ((hL.keep (f1 107 (by omega))).keep (f2 107 (by omega) (by omega))).keep (f3 107 (by omega)), ⟨fr2, (f3 108 (by omega)).trans g2⟩, fun j q1 q2 q3 q4 => (f3 j q2).trans ((f2 j q1 q4).trans ((f1 j q2).trans (hf j q1 q2 q3 q4)))⟩
  by_cases hia : i = (9 + a).toNat
  · rw [hia, va_up_ne _ _ (by omega), va_up_self, va_up_self]
  · by_cases hib : i = (9 + b).toNat
    · rw [hib, va_up_self, va_up_ne _ _ (by omega), va_up_self]
    · rw [va_up_ne _ _ hib, va_up_ne _ _ hia, va_up_ne _ _ hib, va_up_ne _ _ hia]
end MOD
