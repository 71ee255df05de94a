/-! ===== DrawerWallModel: reads, the items told, read ===== -/
theorem tq_1 (k z r : Int) : tq 1 k z r = r := if_neg (fun q => by omega)
theorem fTell_0 {S : vSt} (h : vGood S) (lc : List Int) (a : Int) : (fTell lc a S).1 = -2 ∨ (fTell lc a S).1 = -3 ∨ (fTell lc a S).1 = -4 ∨ 0 ≤ (fTell lc a S).1 := by
  obtain ⟨n, now, ca, po, fo, rs⟩ := S
  obtain ⟨hn, hnow, hca, hpo, hfo, hgd, hcv, hor, hsg, hpast⟩ := h.un
  have H : ∀ z : Int, (z = -2 ∨ z = -3 ∨ z = -4 ∨ 0 ≤ z) → z = -2 ∨ z = -3 ∨ z = -4 ∨ 0 ≤ z := fun _ q => q
  unfold fTell
  split
  · unfold fWall
    split
    · exact H (-2) (by omega)
    · exact H n (by omega)
  · split
    · unfold fCord
      split
      · exact H (-2) (by omega)
      · split
        · exact H (-4) (by omega)
        · exact H ((rs 1).length : Int) (by omega)
    · split
      · unfold fCatch
        split
        · exact H (-2) (by omega)
        · split
          · exact H (-3) (by omega)
          · exact H 1 (by omega)
      · split
        · unfold fGood
          split
          · exact H (-2) (by omega)
          · rename_i hd
            have hd := (Decidable.byContradiction hd).1
            have := hgd.2 _ hd.1 hd.2
            exact H (rAt (rs 0) (rAt lc (a + 1))) (by omega)
        · unfold fOrder
          split
          · exact H (-2) (by omega)
          · split
            · exact H (-4) (by omega)
            · exact H ((rs 5).length : Int) (by omega)
section MOD
variable {nn : Nat} {w : vWd} {n now : Int} {ca po fo : Nat} {rs : Nat → List Int} {tx : List Int} {qt ty a0 sp tk vl mn fd sv k0 k1 rb rn rf : Int} {S0 S1 : vSt}
set_option maxRecDepth 100000 in
theorem cm_reads {it : Nat → Int} (ho : w 99 = some (mO qt tx.length a0 sp tk vl mn fd sv)) (hT : TxM w tx) (hby : byOK tx) (h6 : w 106 = some (arI 250 it)) : Ctr mX6_reads (rm 3) [.ref 99] nn w (pI (fun z w' => RdsP w w' tx qt fd sv z (ftR tx)) nn) := by
  refine Ctr_of (lv := [some (.ref 99), none, none, none, none]) (by decide +kernel) rfl rfl ?_
  have hl : tx.length ≤ 200 := by obtain ⟨t, -, q, -⟩ := hT; exact q
  refine V_aload_n (Y := mX6_reads) (pc := 0) dX6_reads_0 rfl ?_
  refine V_iconst (Y := mX6_reads) (pc := 1) dX6_reads_1 ?_
  apply V_putiW (Y := mX6_reads) (pc := 2) dX6_reads_2 fl_X6_113
  · assumption
  · exact Nat.le_of_ble_eq_true rfl
  intro w_2 h_2 f_2
  simp only [List.set_cons_zero, List.set_cons_succ] at h_2
  refine V_aload_n (Y := mX6_reads) (pc := 5) dX6_reads_5 rfl ?_
  refine V_iconst (Y := mX6_reads) (pc := 6) dX6_reads_6 ?_
  apply V_putiW (Y := mX6_reads) (pc := 7) dX6_reads_7 fl_X6_146
  · assumption
  · exact Nat.le_of_ble_eq_true rfl
  intro w_7 h_7 f_7
  simp only [List.set_cons_zero, List.set_cons_succ] at h_7
  refine V_aload_n (Y := mX6_reads) (pc := 10) dX6_reads_10 rfl ?_
  apply V_vV (Y := mX6_reads) (pc := 11) dX6_reads_11 ok_X6_scans ov_X6_scans ln_X6_149 (cm_scans h_7 (hT.keep ((f_7 105 (by omega)).trans (f_2 105 (by omega)))) hby ⟨by omega, by omega⟩)
  · assumption
  · rfl
  · rfl
  · rfl
  · rfl
  · rfl
  rintro w_11 ⟨vl2, g1, g2, g3⟩
  refine lpm_rds (R := ftR tx) hT hby (fun w' z q => pI_of q) (tx.length + 1) (0, 0, 0) [] it w_11 ⟨⟨by show (0 : Int) ≤ 0; omega, by show (0 : Int) ≤ tx.length; omega⟩, rfl, by show (6 : Int) * (0 / 5) ≤ 0; omega, fun i h1 h2 => by have h2 : i < 0 / 5 := h2; omega, fun q => absurd q (Nat.lt_irrefl 0)⟩ (by show (tx.length : Int) + 1 ≤ 0 + ((tx.length + 1 : Nat) : Int); omega) ⟨⟨vl2, g1, g2⟩, (g3 _ (by omega)).trans ((f_7 _ (by omega)).trans ((f_2 _ (by omega)).trans h6)), fun j a b => (g3 j a).trans ((f_7 j a).trans (f_2 j a))⟩ (fun i h1 h2 => by have h2 : i < 0 / 5 := h2; omega) rfl
set_option maxRecDepth 100000 in
theorem cm_tellsItem {i : Int} {lc : List Int} {it : Nat → Int} (hK : MK w 1 (n, now, ca, po, fo, rs) rb rn rf) (hG : vGood (n, now, ca, po, fo, rs)) (h6 : w 106 = some (arI 250 it)) (hIt : ItM it lc) (hlc : lcOK lc) (hi : 0 ≤ i ∧ i ≤ 40) (hi2 : i < (lc.length : Int) / 5) (hwd : 5 ≤ rAt lc (i * 5) ∧ rAt lc (i * 5) ≤ 9) : Ctr mX6_tellsItem (rm 4) [.ref 99, vI i] nn w (pI (fun z w' => z = bI (0 ≤ (fTell lc (i * 5) (n, now, ca, po, fo, rs)).1) ∧ MK w' 1 (fTell lc (i * 5) (n, now, ca, po, fo, rs)).2 rb rn rf ∧ frB w w') nn) := by
  refine Ctr_of (lv := [some (.ref 99), some (vI i), none, none, none, none]) (by decide +kernel) rfl rfl ?_
  have hK0 := hK
  obtain ⟨⟨ty, a0, sp, tk, vl, mn, fd, sv, ho⟩, ⟨f, -, hB⟩, -, -⟩ := hK
  have hB : BkOf f n now ca po fo rs := hB
  have hl := hB.2.1
  have hrg := fTell_rng hG (by show (rs 1).length ≤ 100; omega) (by show (rs 5).length ≤ 100; omega) lc (i * 5)
  have b1 := hlc (i * 5 + 1)
  have b2 := hlc (i * 5 + 2)
  have b3 := hlc (i * 5 + 3)
  have b4 := hlc (i * 5 + 4)
  obtain ⟨i0, ik⟩ := hIt i hi.1 hi2
  have hdu : 1 ≤ dueN (rAt lc (i * 5)) := by unfold dueN; split; omega; split <;> omega
  have i1 : it (5 * i + 1).toNat = rAt lc (i * 5 + 1) := by have q := ik 0 (by omega) (by omega); rw [show 5 * i + 1 + 0 = 5 * i + 1 by omega, show i * 5 + 1 + 0 = i * 5 + 1 by omega] at q; exact q
  have i2 : (rAt lc (i * 5) = 6 ∨ rAt lc (i * 5) = 8) → it (5 * i + 2).toNat = rAt lc (i * 5 + 2) := fun h => by have q := ik 1 (by omega) (by unfold dueN; split; omega; split <;> omega); rw [show 5 * i + 1 + 1 = 5 * i + 2 by omega, show i * 5 + 1 + 1 = i * 5 + 2 by omega] at q; exact q
  have i3 : rAt lc (i * 5) = 6 → it (5 * i + 3).toNat = rAt lc (i * 5 + 3) := fun h => by have q := ik 2 (by omega) (by rw [show dueN (rAt lc (i * 5)) = 4 from if_pos h]; omega); rw [show 5 * i + 1 + 2 = 5 * i + 3 by omega, show i * 5 + 1 + 2 = i * 5 + 3 by omega] at q; exact q
  have i4 : rAt lc (i * 5) = 6 → it (5 * i + 4).toNat = rAt lc (i * 5 + 4) := fun h => by have q := ik 3 (by omega) (by rw [show dueN (rAt lc (i * 5)) = 4 from if_pos h]; omega); rw [show 5 * i + 1 + 3 = 5 * i + 4 by omega, show i * 5 + 1 + 3 = i * 5 + 4 by omega] at q; exact q
  have hz := fTell_0 hG lc (i * 5)
  refine V_aload_n (Y := mX6_tellsItem) (pc := 0) dX6_tellsItem_0 rfl ?_
  apply V_get (Y := mX6_tellsItem) (pc := 1) dX6_tellsItem_1 fl_X6_29
  · assumption
  · rfl
  refine V_iconst (Y := mX6_tellsItem) (pc := 4) dX6_tellsItem_4 ?_
  refine V_iload_n (Y := mX6_tellsItem) (pc := 5) dX6_tellsItem_5 rfl ?_
  refine V_imul (Y := mX6_tellsItem) (pc := 6) dX6_tellsItem_6 ?_
  refine V_iconst (Y := mX6_tellsItem) (pc := 7) dX6_tellsItem_7 ?_
  refine V_iadd (Y := mX6_tellsItem) (pc := 8) dX6_tellsItem_8 ?_
  apply V_iald (Y := mX6_tellsItem) (pc := 9) dX6_tellsItem_9
  · assumption
  · exact ⟨by omega, by omega⟩
  · omega
  rw [i1]
  refine V_istore_n (Y := mX6_tellsItem) (pc := 10) dX6_tellsItem_10 rfl ?_
  refine V_aload_n (Y := mX6_tellsItem) (pc := 11) dX6_tellsItem_11 rfl ?_
  apply V_get (Y := mX6_tellsItem) (pc := 12) dX6_tellsItem_12 fl_X6_29
  · assumption
  · rfl
  refine V_iconst (Y := mX6_tellsItem) (pc := 15) dX6_tellsItem_15 ?_
  refine V_iload_n (Y := mX6_tellsItem) (pc := 16) dX6_tellsItem_16 rfl ?_
  refine V_imul (Y := mX6_tellsItem) (pc := 17) dX6_tellsItem_17 ?_
  refine V_iconst (Y := mX6_tellsItem) (pc := 18) dX6_tellsItem_18 ?_
  refine V_iadd (Y := mX6_tellsItem) (pc := 19) dX6_tellsItem_19 ?_
  apply V_iald (Y := mX6_tellsItem) (pc := 20) dX6_tellsItem_20
  · assumption
  · exact ⟨by omega, by omega⟩
  · omega
  refine V_istore_n (Y := mX6_tellsItem) (pc := 21) dX6_tellsItem_21 rfl ?_
  refine V_aload_n (Y := mX6_tellsItem) (pc := 22) dX6_tellsItem_22 rfl ?_
  apply V_get (Y := mX6_tellsItem) (pc := 23) dX6_tellsItem_23 fl_X6_29
  · assumption
  · rfl
  refine V_iconst (Y := mX6_tellsItem) (pc := 26) dX6_tellsItem_26 ?_
  refine V_iload_n (Y := mX6_tellsItem) (pc := 27) dX6_tellsItem_27 rfl ?_
  refine V_imul (Y := mX6_tellsItem) (pc := 28) dX6_tellsItem_28 ?_
  apply V_iald (Y := mX6_tellsItem) (pc := 29) dX6_tellsItem_29
  · assumption
  · exact ⟨by omega, by omega⟩
  · omega
  rw [i0]
  refine V_istore (Y := mX6_tellsItem) (pc := 30) dX6_tellsItem_30 rfl ?_
  refine V_iload (Y := mX6_tellsItem) (pc := 32) dX6_tellsItem_32 rfl ?_
  refine V_if_ne (tgt := 45) (Y := mX6_tellsItem) (pc := 34) dX6_tellsItem_34 (by decide) ⟨by omega, by omega⟩ (fun h_34 => ?_) (fun h_34 => ?_)
  · refine V_iload (Y := mX6_tellsItem) (pc := 45) dX6_tellsItem_45 rfl ?_
    refine V_iconst (Y := mX6_tellsItem) (pc := 47) dX6_tellsItem_47 ?_
    refine V_icmp_ne (tgt := 80) (Y := mX6_tellsItem) (pc := 48) dX6_tellsItem_48 (by decide) ⟨by omega, by omega⟩ ⟨by omega, by omega⟩ (fun h_48 => ?_) (fun h_48 => ?_)
    · refine V_iload (Y := mX6_tellsItem) (pc := 80) dX6_tellsItem_80 rfl ?_
      refine V_iconst (Y := mX6_tellsItem) (pc := 82) dX6_tellsItem_82 ?_
      refine V_icmp_ne (tgt := 95) (Y := mX6_tellsItem) (pc := 83) dX6_tellsItem_83 (by decide) ⟨by omega, by omega⟩ ⟨by omega, by omega⟩ (fun h_83 => ?_) (fun h_83 => ?_)
      · refine V_iload (Y := mX6_tellsItem) (pc := 95) dX6_tellsItem_95 rfl ?_
        refine V_iconst (Y := mX6_tellsItem) (pc := 97) dX6_tellsItem_97 ?_
        refine V_icmp_ne (tgt := 110) (Y := mX6_tellsItem) (pc := 98) dX6_tellsItem_98 (by decide) ⟨by omega, by omega⟩ ⟨by omega, by omega⟩ (fun h_98 => ?_) (fun h_98 => ?_)
        · try rw [i2 (by omega)]
          refine V_aload_n (Y := mX6_tellsItem) (pc := 110) dX6_tellsItem_110 rfl ?_
          refine V_iload_n (Y := mX6_tellsItem) (pc := 111) dX6_tellsItem_111 rfl ?_
          apply V_vI (Y := mX6_tellsItem) (pc := 112) dX6_tellsItem_112 ok_X6_order ov_X6_order ln_X6_166 (cm_order (g := rAt lc (i * 5 + 1)) hK0 ⟨by omega, by omega⟩)
          · assumption
          · rfl
          · rfl
          · rfl
          · rfl
          · rfl
          rintro z_39 w_39 ⟨hz2, g1, f1⟩
          rw [tq_1, tq_1, tq_1] at g1
          have e := show fTell lc (i * 5) (n, now, ca, po, fo, rs) = fOrder (n, now, ca, po, fo, rs) (rAt lc (i * 5 + 1)) from (if_neg (by omega)).trans ((if_neg (by omega)).trans ((if_neg (by omega)).trans (if_neg (by omega))))
          rw [← e] at hz2 g1
          replace f1 : frB w w_39 := f1
          generalize fTell lc (i * 5) (n, now, ca, po, fo, rs) = T at *
          refine V_istore (Y := mX6_tellsItem) (pc := 115) dX6_tellsItem_115 rfl ?_
          refine V_iload (Y := mX6_tellsItem) (pc := 117) dX6_tellsItem_117 rfl ?_
          refine V_if_lt (tgt := 126) (Y := mX6_tellsItem) (pc := 119) dX6_tellsItem_119 (by decide) ⟨by omega, by omega⟩ (fun h_119 => ?_) (fun h_119 => ?_)
          · refine V_iconst (Y := mX6_tellsItem) (pc := 126) dX6_tellsItem_126 ?_
            refine V_zret (ty := .boolean) (Y := mX6_tellsItem) (pc := 127) dX6_tellsItem_127 rfl rfl (Nat.le_of_ble_eq_true rfl) (Nat.le_of_ble_eq_true rfl) ?_
            first
              | exact pI_of ⟨(bI_t (by omega)).symm, g1, f1⟩
              | exact pI_of ⟨(bI_f (by omega)).symm, g1, f1⟩
          · refine V_iconst (Y := mX6_tellsItem) (pc := 122) dX6_tellsItem_122 ?_
            refine V_goto (tgt := 127) (Y := mX6_tellsItem) (pc := 123) dX6_tellsItem_123 (by decide) ?_
            refine V_zret (ty := .boolean) (Y := mX6_tellsItem) (pc := 127) dX6_tellsItem_127 rfl rfl (Nat.le_of_ble_eq_true rfl) (Nat.le_of_ble_eq_true rfl) ?_
            first
              | exact pI_of ⟨(bI_t (by omega)).symm, g1, f1⟩
              | exact pI_of ⟨(bI_f (by omega)).symm, g1, f1⟩
        · try rw [i2 (by omega)]
          refine V_aload_n (Y := mX6_tellsItem) (pc := 101) dX6_tellsItem_101 rfl ?_
          refine V_iload_n (Y := mX6_tellsItem) (pc := 102) dX6_tellsItem_102 rfl ?_
          refine V_iload_n (Y := mX6_tellsItem) (pc := 103) dX6_tellsItem_103 rfl ?_
          apply V_vI (Y := mX6_tellsItem) (pc := 104) dX6_tellsItem_104 ok_X6_good ov_X6_good ln_X6_163 (cm_good (d := rAt lc (i * 5 + 1)) (g := rAt lc (i * 5 + 2)) hK0 hG ⟨by omega, by omega⟩ ⟨by omega, by omega⟩)
          · assumption
          · rfl
          · rfl
          · rfl
          · rfl
          · rfl
          rintro z_39 w_39 ⟨hz2, g1, f1⟩
          rw [tq_1, tq_1, tq_1] at g1
          have e := show fTell lc (i * 5) (n, now, ca, po, fo, rs) = fGood (n, now, ca, po, fo, rs) (rAt lc (i * 5 + 1)) (rAt lc (i * 5 + 2)) from (if_neg (by omega)).trans ((if_neg (by omega)).trans ((if_neg (by omega)).trans (if_pos (by omega))))
          rw [← e] at hz2 g1
          replace f1 : frB w w_39 := f1
          generalize fTell lc (i * 5) (n, now, ca, po, fo, rs) = T at *
          refine V_goto (tgt := 115) (Y := mX6_tellsItem) (pc := 107) dX6_tellsItem_107 (by decide) ?_
          refine V_istore (Y := mX6_tellsItem) (pc := 115) dX6_tellsItem_115 rfl ?_
          refine V_iload (Y := mX6_tellsItem) (pc := 117) dX6_tellsItem_117 rfl ?_
          refine V_if_lt (tgt := 126) (Y := mX6_tellsItem) (pc := 119) dX6_tellsItem_119 (by decide) ⟨by omega, by omega⟩ (fun h_119 => ?_) (fun h_119 => ?_)
          · refine V_iconst (Y := mX6_tellsItem) (pc := 126) dX6_tellsItem_126 ?_
            refine V_zret (ty := .boolean) (Y := mX6_tellsItem) (pc := 127) dX6_tellsItem_127 rfl rfl (Nat.le_of_ble_eq_true rfl) (Nat.le_of_ble_eq_true rfl) ?_
            first
              | exact pI_of ⟨(bI_t (by omega)).symm, g1, f1⟩
              | exact pI_of ⟨(bI_f (by omega)).symm, g1, f1⟩
          · refine V_iconst (Y := mX6_tellsItem) (pc := 122) dX6_tellsItem_122 ?_
            refine V_goto (tgt := 127) (Y := mX6_tellsItem) (pc := 123) dX6_tellsItem_123 (by decide) ?_
            refine V_zret (ty := .boolean) (Y := mX6_tellsItem) (pc := 127) dX6_tellsItem_127 rfl rfl (Nat.le_of_ble_eq_true rfl) (Nat.le_of_ble_eq_true rfl) ?_
            first
              | exact pI_of ⟨(bI_t (by omega)).symm, g1, f1⟩
              | exact pI_of ⟨(bI_f (by omega)).symm, g1, f1⟩
      · refine V_aload_n (Y := mX6_tellsItem) (pc := 86) dX6_tellsItem_86 rfl ?_
        refine V_iload_n (Y := mX6_tellsItem) (pc := 87) dX6_tellsItem_87 rfl ?_
        refine V_iconst (Y := mX6_tellsItem) (pc := 88) dX6_tellsItem_88 ?_
        apply V_vI (Y := mX6_tellsItem) (pc := 89) dX6_tellsItem_89 ok_X6_caught ov_X6_caught ln_X6_159 (cm_caught (d := rAt lc (i * 5 + 1)) (z := 1) hK0 hG ⟨by omega, by omega⟩ (Or.inr rfl))
        · assumption
        · rfl
        · rfl
        · rfl
        · rfl
        · rfl
        rintro z_39 w_39 ⟨hz2, g1, f1⟩
        rw [tq_1, tq_1, tq_1] at g1
        have e := show fTell lc (i * 5) (n, now, ca, po, fo, rs) = fCatch (n, now, ca, po, fo, rs) (rAt lc (i * 5 + 1)) 1 from (if_neg (by omega)).trans ((if_neg (by omega)).trans (if_pos (by omega)))
        rw [← e] at hz2 g1
        replace f1 : frB w w_39 := f1
        generalize fTell lc (i * 5) (n, now, ca, po, fo, rs) = T at *
        refine V_goto (tgt := 115) (Y := mX6_tellsItem) (pc := 92) dX6_tellsItem_92 (by decide) ?_
        refine V_istore (Y := mX6_tellsItem) (pc := 115) dX6_tellsItem_115 rfl ?_
        refine V_iload (Y := mX6_tellsItem) (pc := 117) dX6_tellsItem_117 rfl ?_
        refine V_if_lt (tgt := 126) (Y := mX6_tellsItem) (pc := 119) dX6_tellsItem_119 (by decide) ⟨by omega, by omega⟩ (fun h_119 => ?_) (fun h_119 => ?_)
        · refine V_iconst (Y := mX6_tellsItem) (pc := 126) dX6_tellsItem_126 ?_
          refine V_zret (ty := .boolean) (Y := mX6_tellsItem) (pc := 127) dX6_tellsItem_127 rfl rfl (Nat.le_of_ble_eq_true rfl) (Nat.le_of_ble_eq_true rfl) ?_
          first
            | exact pI_of ⟨(bI_t (by omega)).symm, g1, f1⟩
            | exact pI_of ⟨(bI_f (by omega)).symm, g1, f1⟩
        · refine V_iconst (Y := mX6_tellsItem) (pc := 122) dX6_tellsItem_122 ?_
          refine V_goto (tgt := 127) (Y := mX6_tellsItem) (pc := 123) dX6_tellsItem_123 (by decide) ?_
          refine V_zret (ty := .boolean) (Y := mX6_tellsItem) (pc := 127) dX6_tellsItem_127 rfl rfl (Nat.le_of_ble_eq_true rfl) (Nat.le_of_ble_eq_true rfl) ?_
          first
            | exact pI_of ⟨(bI_t (by omega)).symm, g1, f1⟩
            | exact pI_of ⟨(bI_f (by omega)).symm, g1, f1⟩
    · refine V_aload_n (Y := mX6_tellsItem) (pc := 51) dX6_tellsItem_51 rfl ?_
      refine V_iload_n (Y := mX6_tellsItem) (pc := 52) dX6_tellsItem_52 rfl ?_
      refine V_iload_n (Y := mX6_tellsItem) (pc := 53) dX6_tellsItem_53 rfl ?_
      refine V_aload_n (Y := mX6_tellsItem) (pc := 54) dX6_tellsItem_54 rfl ?_
      apply V_get (Y := mX6_tellsItem) (pc := 55) dX6_tellsItem_55 fl_X6_29
      · assumption
      · rfl
      refine V_iconst (Y := mX6_tellsItem) (pc := 58) dX6_tellsItem_58 ?_
      refine V_iload_n (Y := mX6_tellsItem) (pc := 59) dX6_tellsItem_59 rfl ?_
      refine V_imul (Y := mX6_tellsItem) (pc := 60) dX6_tellsItem_60 ?_
      refine V_iconst (Y := mX6_tellsItem) (pc := 61) dX6_tellsItem_61 ?_
      refine V_iadd (Y := mX6_tellsItem) (pc := 62) dX6_tellsItem_62 ?_
      apply V_iald (Y := mX6_tellsItem) (pc := 63) dX6_tellsItem_63
      · assumption
      · exact ⟨by omega, by omega⟩
      · omega
      rw [i3 (by omega)]
      refine V_aload_n (Y := mX6_tellsItem) (pc := 64) dX6_tellsItem_64 rfl ?_
      apply V_get (Y := mX6_tellsItem) (pc := 65) dX6_tellsItem_65 fl_X6_29
      · assumption
      · rfl
      refine V_iconst (Y := mX6_tellsItem) (pc := 68) dX6_tellsItem_68 ?_
      refine V_iload_n (Y := mX6_tellsItem) (pc := 69) dX6_tellsItem_69 rfl ?_
      refine V_imul (Y := mX6_tellsItem) (pc := 70) dX6_tellsItem_70 ?_
      refine V_iconst (Y := mX6_tellsItem) (pc := 71) dX6_tellsItem_71 ?_
      refine V_iadd (Y := mX6_tellsItem) (pc := 72) dX6_tellsItem_72 ?_
      apply V_iald (Y := mX6_tellsItem) (pc := 73) dX6_tellsItem_73
      · assumption
      · exact ⟨by omega, by omega⟩
      · omega
      rw [i4 (by omega), i2 (by omega)]
      apply V_vI (Y := mX6_tellsItem) (pc := 74) dX6_tellsItem_74 ok_X6_cord ov_X6_cord ln_X6_155 (cm_cord (a := rAt lc (i * 5 + 1)) (b := rAt lc (i * 5 + 2)) (k := rAt lc (i * 5 + 3)) (v := rAt lc (i * 5 + 4)) hK0 hG ⟨by omega, by omega⟩ ⟨by omega, by omega⟩ ⟨by omega, by omega⟩ ⟨by omega, by omega⟩)
      · assumption
      · rfl
      · rfl
      · rfl
      · rfl
      · rfl
      rintro z_39 w_39 ⟨hz2, g1, f1⟩
      rw [tq_1, tq_1, tq_1] at g1
      have e := show fTell lc (i * 5) (n, now, ca, po, fo, rs) = fCord (n, now, ca, po, fo, rs) (rAt lc (i * 5 + 1)) (rAt lc (i * 5 + 2)) (rAt lc (i * 5 + 3)) (rAt lc (i * 5 + 4)) from (if_neg (by omega)).trans (if_pos (by omega))
      rw [← e] at hz2 g1
      replace f1 : frB w w_39 := f1
      generalize fTell lc (i * 5) (n, now, ca, po, fo, rs) = T at *
      refine V_goto (tgt := 115) (Y := mX6_tellsItem) (pc := 77) dX6_tellsItem_77 (by decide) ?_
      refine V_istore (Y := mX6_tellsItem) (pc := 115) dX6_tellsItem_115 rfl ?_
      refine V_iload (Y := mX6_tellsItem) (pc := 117) dX6_tellsItem_117 rfl ?_
      refine V_if_lt (tgt := 126) (Y := mX6_tellsItem) (pc := 119) dX6_tellsItem_119 (by decide) ⟨by omega, by omega⟩ (fun h_119 => ?_) (fun h_119 => ?_)
      · refine V_iconst (Y := mX6_tellsItem) (pc := 126) dX6_tellsItem_126 ?_
        refine V_zret (ty := .boolean) (Y := mX6_tellsItem) (pc := 127) dX6_tellsItem_127 rfl rfl (Nat.le_of_ble_eq_true rfl) (Nat.le_of_ble_eq_true rfl) ?_
        first
          | exact pI_of ⟨(bI_t (by omega)).symm, g1, f1⟩
          | exact pI_of ⟨(bI_f (by omega)).symm, g1, f1⟩
      · refine V_iconst (Y := mX6_tellsItem) (pc := 122) dX6_tellsItem_122 ?_
        refine V_goto (tgt := 127) (Y := mX6_tellsItem) (pc := 123) dX6_tellsItem_123 (by decide) ?_
        refine V_zret (ty := .boolean) (Y := mX6_tellsItem) (pc := 127) dX6_tellsItem_127 rfl rfl (Nat.le_of_ble_eq_true rfl) (Nat.le_of_ble_eq_true rfl) ?_
        first
          | exact pI_of ⟨(bI_t (by omega)).symm, g1, f1⟩
          | exact pI_of ⟨(bI_f (by omega)).symm, g1, f1⟩
  · refine V_aload_n (Y := mX6_tellsItem) (pc := 37) dX6_tellsItem_37 rfl ?_
    refine V_iload_n (Y := mX6_tellsItem) (pc := 38) dX6_tellsItem_38 rfl ?_
    apply V_vI (Y := mX6_tellsItem) (pc := 39) dX6_tellsItem_39 ok_X6_wall ov_X6_wall ln_X6_152 (cm_wall (k := rAt lc (i * 5 + 1)) hK0 hG.1 ⟨by omega, by omega⟩)
    · assumption
    · rfl
    · rfl
    · rfl
    · rfl
    · rfl
    rintro z_39 w_39 ⟨hz2, g1, f1⟩
    rw [tq_1, tq_1, tq_1] at g1
    have e := show fTell lc (i * 5) (n, now, ca, po, fo, rs) = fWall (n, now, ca, po, fo, rs) (rAt lc (i * 5 + 1)) from if_pos (by omega)
    rw [← e] at hz2 g1
    replace f1 : frB w w_39 := f1
    generalize fTell lc (i * 5) (n, now, ca, po, fo, rs) = T at *
    refine V_goto (tgt := 115) (Y := mX6_tellsItem) (pc := 42) dX6_tellsItem_42 (by decide) ?_
    refine V_istore (Y := mX6_tellsItem) (pc := 115) dX6_tellsItem_115 rfl ?_
    refine V_iload (Y := mX6_tellsItem) (pc := 117) dX6_tellsItem_117 rfl ?_
    refine V_if_lt (tgt := 126) (Y := mX6_tellsItem) (pc := 119) dX6_tellsItem_119 (by decide) ⟨by omega, by omega⟩ (fun h_119 => ?_) (fun h_119 => ?_)
    · refine V_iconst (Y := mX6_tellsItem) (pc := 126) dX6_tellsItem_126 ?_
      refine V_zret (ty := .boolean) (Y := mX6_tellsItem) (pc := 127) dX6_tellsItem_127 rfl rfl (Nat.le_of_ble_eq_true rfl) (Nat.le_of_ble_eq_true rfl) ?_
      first
        | exact pI_of ⟨(bI_t (by omega)).symm, g1, f1⟩
        | exact pI_of ⟨(bI_f (by omega)).symm, g1, f1⟩
    · refine V_iconst (Y := mX6_tellsItem) (pc := 122) dX6_tellsItem_122 ?_
      refine V_goto (tgt := 127) (Y := mX6_tellsItem) (pc := 123) dX6_tellsItem_123 (by decide) ?_
      refine V_zret (ty := .boolean) (Y := mX6_tellsItem) (pc := 127) dX6_tellsItem_127 rfl rfl (Nat.le_of_ble_eq_true rfl) (Nat.le_of_ble_eq_true rfl) ?_
      first
        | exact pI_of ⟨(bI_t (by omega)).symm, g1, f1⟩
        | exact pI_of ⟨(bI_f (by omega)).symm, g1, f1⟩
set_option maxRecDepth 100000 in
theorem lpm_rdA {f : Nat → Int} (ho : w 99 = some (mO qt ty a0 sp tk vl mn fd sv)) (hb : w 100 = some (arI 98 f)) {Q : vPost} (K : ∀ w' g', w' 103 = some (arI 98 g') → (∀ j, j ≠ 103 → w' j = w j) → (∀ j : Nat, j < 98 → g' j = f j) → V mX6_read (rm 5) Q 41 [some (.ref 99), none, none] [] nn w' 0 0) : ∀ (m : Nat) (k : Int) (w' : vWd) (g' : Nat → Int), 0 ≤ k → k + m = 98 → w' 103 = some (arI 98 g') → (∀ j, j ≠ 103 → w' j = w j) → (∀ j : Nat, (j : Int) < k → g' j = f j) →
    V mX6_read (rm 5) Q 17 [some (.ref 99), some (vI k), none] [] nn w' 0 0 := by
  intro m
  induction m with
  | zero =>
    intro k w' g' hk hkm hg hf h1
    refine V_iload_n (Y := mX6_read) (pc := 17) dX6_read_17 rfl ?_
    refine V_bipush (Y := mX6_read) (pc := 18) dX6_read_18 ⟨by decide, by decide⟩ ?_
    refine V_icmp_ge (tgt := 41) (Y := mX6_read) (pc := 20) dX6_read_20 (by decide) ⟨by omega, by omega⟩ ⟨by omega, by omega⟩ (fun h_20 => ?_) (fun h_20 => absurd h_20 (by omega))
    exact V_drop 1 (K w' g' hg hf (fun j hj => h1 j (by omega)))
  | succ m ih =>
    intro k w' g' hk hkm hg hf h1
    have ho' := (hf 99 (by omega)).trans ho
    have hb' := (hf 100 (by omega)).trans hb
    refine V_iload_n (Y := mX6_read) (pc := 17) dX6_read_17 rfl ?_
    refine V_bipush (Y := mX6_read) (pc := 18) dX6_read_18 ⟨by decide, by decide⟩ ?_
    refine V_icmp_ge (tgt := 41) (Y := mX6_read) (pc := 20) dX6_read_20 (by decide) ⟨by omega, by omega⟩ ⟨by omega, by omega⟩ (fun h_20 => absurd h_20 (by omega)) (fun h_20 => ?_)
    refine V_aload_n (Y := mX6_read) (pc := 23) dX6_read_23 rfl ?_
    apply V_get (Y := mX6_read) (pc := 24) dX6_read_24 fl_X6_20
    · assumption
    · rfl
    refine V_iload_n (Y := mX6_read) (pc := 27) dX6_read_27 rfl ?_
    refine V_aload_n (Y := mX6_read) (pc := 28) dX6_read_28 rfl ?_
    apply V_get (Y := mX6_read) (pc := 29) dX6_read_29 fl_X6_7
    · assumption
    · rfl
    refine V_iload_n (Y := mX6_read) (pc := 32) dX6_read_32 rfl ?_
    apply V_iald (Y := mX6_read) (pc := 33) dX6_read_33
    · assumption
    · exact ⟨by omega, by omega⟩
    · omega
    apply V_iastW (Y := mX6_read) (pc := 34) dX6_read_34
    · assumption
    · exact ⟨by omega, by omega⟩
    · omega
    intro w_34 h_34 f_34
    refine V_iinc (Y := mX6_read) (pc := 35) dX6_read_35 rfl rfl ?_
    refine V_goto (tgt := 17) (Y := mX6_read) (pc := 38) dX6_read_38 (by decide) ?_
    refine ih (k + 1) w_34 _ (by omega) (by omega) h_34 (fun j hj => (f_34 j hj).trans (hf j hj)) (fun j hj => ?_)
    by_cases hjk : (j : Int) = k
    · rw [show j = k.toNat by omega, va_up_self]
    · rw [va_up_ne _ _ (by omega)]; exact h1 j (by omega)
set_option maxRecDepth 100000 in
theorem lpm_rdB {g : Nat → Int} {c : Int} (ho : w 99 = some (mO qt ty a0 sp tk vl mn fd sv)) (hg : w 103 = some (arI 98 g)) {Q : vPost} (hQ : ∀ w' f', w' 100 = some (arI 98 f') → (∀ j, j ≠ 100 → w' j = w j) → (∀ j : Nat, j < 98 → f' j = g j) → Q (some (vI (-1000 - c))) nn w') : ∀ (m : Nat) (k : Int) (w' : vWd) (f' : Nat → Int), 0 ≤ k → k + m = 98 → w' 100 = some (arI 98 f') → (∀ j, j ≠ 100 → w' j = w j) → (∀ j : Nat, (j : Int) < k → f' j = g j) →
    V mX6_read (rm 5) Q 90 [some (.ref 99), some (vI c), some (vI k)] [] nn w' 0 0 := by
  intro m
  induction m with
  | zero =>
    intro k w' f' hk hkm hg hf h1
    refine V_iload_n (Y := mX6_read) (pc := 90) dX6_read_90 rfl ?_
    refine V_bipush (Y := mX6_read) (pc := 91) dX6_read_91 ⟨by decide, by decide⟩ ?_
    refine V_icmp_ge (tgt := 114) (Y := mX6_read) (pc := 93) dX6_read_93 (by decide) ⟨by omega, by omega⟩ ⟨by omega, by omega⟩ (fun h_93 => ?_) (fun h_93 => absurd h_93 (by omega))
    refine V_sipush (Y := mX6_read) (pc := 114) dX6_read_114 ⟨by decide, by decide⟩ ?_
    refine V_iload_n (Y := mX6_read) (pc := 117) dX6_read_117 rfl ?_
    refine V_isub (Y := mX6_read) (pc := 118) dX6_read_118 ?_
    refine V_iret (Y := mX6_read) (pc := 119) dX6_read_119 rfl (Nat.le_of_ble_eq_true rfl) (Nat.le_of_ble_eq_true rfl) ?_
    exact hQ w' f' hg hf (fun j hj => h1 j (by omega))
  | succ m ih =>
    intro k w' f' hk hkm hb hf h1
    have ho' := (hf 99 (by omega)).trans ho
    have hg' := (hf 103 (by omega)).trans hg
    refine V_iload_n (Y := mX6_read) (pc := 90) dX6_read_90 rfl ?_
    refine V_bipush (Y := mX6_read) (pc := 91) dX6_read_91 ⟨by decide, by decide⟩ ?_
    refine V_icmp_ge (tgt := 114) (Y := mX6_read) (pc := 93) dX6_read_93 (by decide) ⟨by omega, by omega⟩ ⟨by omega, by omega⟩ (fun h_93 => absurd h_93 (by omega)) (fun h_93 => ?_)
    refine V_aload_n (Y := mX6_read) (pc := 96) dX6_read_96 rfl ?_
    apply V_get (Y := mX6_read) (pc := 97) dX6_read_97 fl_X6_7
    · assumption
    · rfl
    refine V_iload_n (Y := mX6_read) (pc := 100) dX6_read_100 rfl ?_
    refine V_aload_n (Y := mX6_read) (pc := 101) dX6_read_101 rfl ?_
    apply V_get (Y := mX6_read) (pc := 102) dX6_read_102 fl_X6_20
    · assumption
    · rfl
    refine V_iload_n (Y := mX6_read) (pc := 105) dX6_read_105 rfl ?_
    apply V_iald (Y := mX6_read) (pc := 106) dX6_read_106
    · assumption
    · exact ⟨by omega, by omega⟩
    · omega
    apply V_iastW (Y := mX6_read) (pc := 107) dX6_read_107
    · assumption
    · exact ⟨by omega, by omega⟩
    · omega
    intro w_107 h_107 f_107
    refine V_iinc (Y := mX6_read) (pc := 108) dX6_read_108 rfl rfl ?_
    refine V_goto (tgt := 90) (Y := mX6_read) (pc := 111) dX6_read_111 (by decide) ?_
    refine ih (k + 1) w_107 _ (by omega) (by omega) h_107 (fun j hj => (f_107 j hj).trans (hf j hj)) (fun j hj => ?_)
    by_cases hjk : (j : Int) = k
    · rw [show j = k.toNat by omega, va_up_self]
    · rw [va_up_ne _ _ (by omega)]; exact h1 j (by omega)
set_option maxRecDepth 100000 in
theorem lpm_rdT {N : Int} {lc : List Int} {it : Nat → Int} {r : Int × vSt} (ho : w 99 = some (mO 1 ty a0 sp tk vl N fd sv)) (h6 : w 106 = some (arI 250 it)) (hIt : ItM it lc) (hlc : lcOK lc) (hN : N = (lc.length : Int) / 5) (hN2 : N ≤ 40) (hwd : ∀ i : Int, 0 ≤ i → i < (lc.length : Int) / 5 → 5 ≤ rAt lc (i * 5) ∧ rAt lc (i * 5) ≤ 9) {Q : vPost} (K : ∀ w', frB w w' → MK w' 1 r.2 rb rn rf → V mX6_read (rm 5) Q 70 [some (.ref 99), some (vI (if r.1 = -1 then N else r.1)), none] [] nn w' 0 0) : ∀ (m : Nat) (i : Int) (S : vSt) (w' : vWd), 0 ≤ i → i + m = N → vGood S → MK w' 1 S rb rn rf → frB w w' → fTells lc m i S = r →
    V mX6_read (rm 5) Q 48 [some (.ref 99), some (vI i), none] [] nn w' 0 0 := by
  intro m
  induction m with
  | zero =>
    intro i S w' hi him hG hM hf hr
    have ho' := (hf 99 (by omega) (by omega)).trans ho
    have hr : ((-1 : Int), S) = r := hr
    rw [← hr] at K
    have K := K w' hf hM
    rw [if_pos (show ((-1 : Int), S).1 = -1 from rfl)] at K
    refine V_iload_n (Y := mX6_read) (pc := 48) dX6_read_48 rfl ?_
    refine V_aload_n (Y := mX6_read) (pc := 49) dX6_read_49 rfl ?_
    apply V_get (Y := mX6_read) (pc := 50) dX6_read_50 fl_X6_146
    · assumption
    · rfl
    refine V_icmp_ge (tgt := 70) (Y := mX6_read) (pc := 53) dX6_read_53 (by decide) ⟨by omega, by omega⟩ ⟨by omega, by omega⟩ (fun h_53 => ?_) (fun h_53 => absurd h_53 (by omega))
    rw [show i = N by omega]
    exact K
  | succ m ih =>
    intro i S w' hi him hG hM hf hr
    have ho' := (hf 99 (by omega) (by omega)).trans ho
    have h6' := (hf 106 (by omega) (by omega)).trans h6
    have hgd := fTell_good hG lc (i * 5)
    have hz0 := fTell_0 hG lc (i * 5)
    obtain ⟨n, now, ca, po, fo, rs⟩ := S
    have hr : (if (fTell lc (i * 5) (n, now, ca, po, fo, rs)).1 = -2 ∨ (fTell lc (i * 5) (n, now, ca, po, fo, rs)).1 = -3 ∨ (fTell lc (i * 5) (n, now, ca, po, fo, rs)).1 = -4 then (i, (fTell lc (i * 5) (n, now, ca, po, fo, rs)).2) else fTells lc m (i + 1) (fTell lc (i * 5) (n, now, ca, po, fo, rs)).2) = r := hr
    refine V_iload_n (Y := mX6_read) (pc := 48) dX6_read_48 rfl ?_
    refine V_aload_n (Y := mX6_read) (pc := 49) dX6_read_49 rfl ?_
    apply V_get (Y := mX6_read) (pc := 50) dX6_read_50 fl_X6_146
    · assumption
    · rfl
    refine V_icmp_ge (tgt := 70) (Y := mX6_read) (pc := 53) dX6_read_53 (by decide) ⟨by omega, by omega⟩ ⟨by omega, by omega⟩ (fun h_53 => absurd h_53 (by omega)) (fun h_53 => ?_)
    refine V_aload_n (Y := mX6_read) (pc := 56) dX6_read_56 rfl ?_
    refine V_iload_n (Y := mX6_read) (pc := 57) dX6_read_57 rfl ?_
    apply V_vI (Y := mX6_read) (pc := 58) dX6_read_58 ok_X6_tellsItem ov_X6_tellsItem ln_X6_173 (cm_tellsItem (lc := lc) (it := it) hM hG h6' hIt hlc ⟨by omega, by omega⟩ (by omega) (hwd i hi (by omega)))
    · assumption
    · rfl
    · rfl
    · rfl
    · rfl
    · rfl
    rintro z_58 w_58 ⟨hz, g1, f1⟩
    subst hz
    have f58 : frB w w_58 := fun j a b => (f1 j a b).trans (hf j a b)
    refine V_if_eqB (tgt := 70) (Y := mX6_read) (pc := 61) dX6_read_61 (by decide) (fun h_61 => ?_) (fun h_61 => ?_)
    · rw [if_pos (by omega)] at hr
      rw [← hr] at K
      have K := K w_58 f58 g1
      rw [if_neg (show ¬ i = -1 by omega)] at K
      exact K
    · refine V_iinc (Y := mX6_read) (pc := 64) dX6_read_64 rfl rfl ?_
      refine V_goto (tgt := 48) (Y := mX6_read) (pc := 67) dX6_read_67 (by decide) ?_
      rw [if_neg (by omega)] at hr
      exact ih (i + 1) _ w_58 (by omega) (by omega) hgd g1 f58 hr
set_option maxRecDepth 100000 in
theorem lpm_rdZ {g f : Nat → Int} {c N : Int} (ho : w 99 = some (mO 1 ty a0 sp tk vl N fd sv)) (hb : w 100 = some (arI 98 f)) (hg : w 103 = some (arI 98 g)) {Q : vPost} (hc : 0 ≤ c ∧ c ≤ N) (hN : N ≤ 40) (K1 : c = N → ∀ w', w' 99 = some (mO 0 ty a0 sp tk vl N fd sv) → (∀ j, j ≠ 99 → w' j = w j) → Q (some (vI N)) nn w') (K0 : c ≠ N → ∀ w' f', w' 99 = some (mO 0 ty a0 sp tk vl N fd sv) → w' 100 = some (arI 98 f') → (∀ j, j ≠ 99 → j ≠ 100 → w' j = w j) → (∀ j : Nat, j < 98 → f' j = g j) → Q (some (vI (-1000 - c))) nn w') :
    V mX6_read (rm 5) Q 70 [some (.ref 99), some (vI c), none] [] nn w 0 0 := by
  refine V_aload_n (Y := mX6_read) (pc := 70) dX6_read_70 rfl ?_
  refine V_iconst (Y := mX6_read) (pc := 71) dX6_read_71 ?_
  apply V_putzW (Y := mX6_read) (pc := 72) dX6_read_72 fl_X6_48
  · assumption
  · first | exact Or.inl rfl | exact Or.inr rfl
  · exact Nat.le_of_ble_eq_true rfl
  intro w_72 h_72 f_72
  simp only [List.set_cons_zero, List.set_cons_succ] at h_72
  refine V_iload_n (Y := mX6_read) (pc := 75) dX6_read_75 rfl ?_
  refine V_aload_n (Y := mX6_read) (pc := 76) dX6_read_76 rfl ?_
  apply V_get (Y := mX6_read) (pc := 77) dX6_read_77 fl_X6_146
  · assumption
  · rfl
  refine V_icmp_ne (tgt := 88) (Y := mX6_read) (pc := 80) dX6_read_80 (by decide) ⟨by omega, by omega⟩ ⟨by omega, by omega⟩ (fun h_80 => ?_) (fun h_80 => ?_)
  · refine V_iconst (Y := mX6_read) (pc := 88) dX6_read_88 ?_
    refine V_istore_n (Y := mX6_read) (pc := 89) dX6_read_89 rfl ?_
    exact lpm_rdB h_72 ((f_72 103 (by omega)).trans hg) (fun w' f' q1 q2 q3 => K0 h_80 w' f' ((q2 99 (by omega)).trans h_72) q1 (fun j a b => (q2 j b).trans (f_72 j a)) q3) 98 0 w_72 f (by omega) (by omega) ((f_72 100 (by omega)).trans hb) (fun _ _ => rfl) (fun j hj => by omega)
  · refine V_aload_n (Y := mX6_read) (pc := 83) dX6_read_83 rfl ?_
    apply V_get (Y := mX6_read) (pc := 84) dX6_read_84 fl_X6_146
    · assumption
    · rfl
    refine V_iret (Y := mX6_read) (pc := 87) dX6_read_87 rfl (Nat.le_of_ble_eq_true rfl) (Nat.le_of_ble_eq_true rfl) ?_
    exact K1 (by omega) w_72 h_72 f_72
set_option maxRecDepth 100000 in
theorem lpm_rd41 {f g it : Nat → Int} {N : Int} {lc : List Int} {r : Int × vSt} {S : vSt} (ho : w 99 = some (mO 0 ty a0 sp tk vl N fd sv)) (hb : w 100 = some (arI 98 f)) (hBS : BkS f S) (hG : vGood S) (hrf : RfAt w rb rn rf) (hg : w 103 = some (arI 98 g)) (h6 : w 106 = some (arI 250 it)) (hIt : ItM it lc) (hlc : lcOK lc) (hN : N = (lc.length : Int) / 5) (hN2 : N ≤ 40) (hwd : ∀ i : Int, 0 ≤ i → i < (lc.length : Int) / 5 → 5 ≤ rAt lc (i * 5) ∧ rAt lc (i * 5) ≤ 9) (hr : fTells lc N.toNat 0 S = r) (hr1 : r.1 = -1 ∨ (0 ≤ r.1 ∧ r.1 < N)) {Q : vPost} (K1 : r.1 = -1 → ∀ w', MK w' 0 r.2 rb rn rf → w' 99 = some (mO 0 ty a0 sp tk vl N fd sv) → (∀ j, j ≠ 99 → j ≠ 100 → j ≠ 104 → w' j = w j) → Q (some (vI N)) nn w') (K0 : r.1 ≠ -1 → ∀ w' f', w' 99 = some (mO 0 ty a0 sp tk vl N fd sv) → w' 100 = some (arI 98 f') → (∀ j : Nat, j < 98 → f' j = g j) → RfAt w' rb rn rf → (∀ j, j ≠ 99 → j ≠ 100 → j ≠ 104 → w' j = w j) → Q (some (vI (-1000 - r.1))) nn w') :
    V mX6_read (rm 5) Q 41 [some (.ref 99), none, none] [] nn w 0 0 := by
  refine V_aload_n (Y := mX6_read) (pc := 41) dX6_read_41 rfl ?_
  refine V_iconst (Y := mX6_read) (pc := 42) dX6_read_42 ?_
  apply V_putzW (Y := mX6_read) (pc := 43) dX6_read_43 fl_X6_48
  · assumption
  · first | exact Or.inl rfl | exact Or.inr rfl
  · exact Nat.le_of_ble_eq_true rfl
  intro w_43 h_43 f_43
  simp only [List.set_cons_zero, List.set_cons_succ] at h_43
  refine V_iconst (Y := mX6_read) (pc := 46) dX6_read_46 ?_
  refine V_istore_n (Y := mX6_read) (pc := 47) dX6_read_47 rfl ?_
  refine lpm_rdT h_43 ((f_43 106 (by omega)).trans h6) hIt hlc hN hN2 hwd (fun w' q1 q2 => ?_) N.toNat 0 S w_43 (by omega) (by omega) hG ⟨⟨_, _, _, _, _, _, _, _, h_43⟩, ⟨f, (f_43 100 (by omega)).trans hb, hBS⟩, hrf.keep (f_43 104 (by omega)), Or.inr rfl⟩ (frB.refl _) hr
  have o := (q1 99 (by omega) (by omega)).trans h_43
  have q20 := q2
  obtain ⟨-, ⟨f2, b2, B2⟩, r2, -⟩ := q20
  have g2 := (q1 103 (by omega) (by omega)).trans ((f_43 103 (by omega)).trans hg)
  refine lpm_rdZ (c := if r.1 = -1 then N else r.1) o b2 g2 ⟨by split <;> omega, by split <;> omega⟩ hN2 (fun c1 w2 a1 a2 => ?_) (fun c1 w2 f3 a1 a2 a3 a4 => ?_)
  · have hr2 : r.1 = -1 := by split at c1 <;> omega
    exact K1 hr2 w2 ⟨⟨_, _, _, _, _, _, _, _, a1⟩, ⟨f2, (a2 100 (by omega)).trans b2, B2⟩, r2.keep (a2 104 (by omega)), Or.inl rfl⟩ a1 (fun j x y z => (a2 j x).trans ((q1 j y z).trans (f_43 j x)))
  · have hr2 : r.1 ≠ -1 := by split at c1 <;> omega
    rw [if_neg hr2]
    exact K0 hr2 w2 f3 a1 a2 a4 (r2.keep (a3 104 (by omega) (by omega))) (fun j x y z => (a3 j x y).trans ((q1 j y z).trans (f_43 j x)))
theorem ScM.put {w w' : vWd} (h : ScM w) (h3 : ∃ g, w' 103 = some (arI 98 g)) (h6 : ∃ g, w' 106 = some (arI 250 g)) (hf : ∀ j, 107 ≤ j → j ≤ 110 → w' j = w j) : ScM w' := by
  obtain ⟨-, -, ⟨c, hc⟩, ⟨d, hd⟩, ⟨e, he⟩, ⟨g, hg⟩⟩ := h
  exact ⟨h3, h6, ⟨c, (hf _ (by omega) (by omega)).trans hc⟩, ⟨d, (hf _ (by omega) (by omega)).trans hd⟩, ⟨e, (hf _ (by omega) (by omega)).trans he⟩, ⟨g, (hf _ (by omega) (by omega)).trans hg⟩⟩
theorem MInv.frR {w w' : vWd} {S S' : vSt} {mn' a0' sp' tk' vl' fd' sv' : Int} (h : MInv w S S0 S1 k0 k1 tx rb rn rf) (ho : w' 99 = some (mO 0 tx.length a0' sp' tk' vl' mn' fd' sv')) (hb : ∃ f, w' 100 = some (arI 98 f) ∧ BkS f S') (hr : RfAt w' rb rn rf) (h3 : ∃ g, w' 103 = some (arI 98 g)) (h6 : ∃ g, w' 106 = some (arI 250 g)) (hf : ∀ j, j ≠ 99 → j ≠ 100 → j ≠ 103 → j ≠ 104 → j ≠ 106 → w' j = w j) : MInv w' S' S0 S1 k0 k1 tx rb rn rf ∧ frM w w' :=
  ⟨⟨⟨⟨_, _, _, _, _, _, _, _, ho⟩, hb, hr, Or.inl rfl⟩, ⟨_, _, _, _, _, _, _, ho⟩, h.2.2.1.keep (hf _ (by omega) (by omega) (by omega) (by omega) (by omega)), h.2.2.2.1.keep (hf _ (by omega) (by omega) (by omega) (by omega) (by omega)) (hf _ (by omega) (by omega) (by omega) (by omega) (by omega)), h.2.2.2.2.put h3 h6 (fun j a b => hf j (by omega) (by omega) (by omega) (by omega) (by omega))⟩, fun j hj => hf j (by omega) (by omega) (by omega) (by omega) (by omega)⟩
theorem fTells_lt (lc : List Int) : ∀ (m : Nat) (i : Int) (S : vSt), 0 ≤ i → (fTells lc m i S).1 = -1 ∨ (0 ≤ (fTells lc m i S).1 ∧ (fTells lc m i S).1 < i + m)
  | 0, i, S, h => Or.inl rfl
  | m + 1, i, S, h => by
    rw [fTells]
    split
    · exact Or.inr ⟨by show 0 ≤ i; omega, by show i < i + ((m + 1 : Nat) : Int); omega⟩
    · rcases fTells_lt lc m (i + 1) (fTell lc (i * 5) S).2 (by omega) with q | q
      · exact Or.inl q
      · exact Or.inr ⟨q.1, by have := q.2; omega⟩
set_option maxRecDepth 100000 in
theorem lpm_rd4 {Q : vPost} (h : MInv w (n, now, ca, po, fo, rs) S0 S1 k0 k1 tx rb rn rf) (hG : vGood (n, now, ca, po, fo, rs)) (hby : byOK tx) (hQ : ∀ w', MInv w' (fRead (n, now, ca, po, fo, rs) tx).2 S0 S1 k0 k1 tx rb rn rf → frM w w' → Q (some (vI (fRead (n, now, ca, po, fo, rs) tx).1)) nn w') {w1 : vWd} {z : Int} (hz : RdsP w w1 tx 0 fd sv z (ftR tx)) :
    V mX6_read (rm 5) Q 4 [some (.ref 99), none, none] [vI z] nn w1 0 0 := by
  have h0 := h
  obtain ⟨⟨-, ⟨f, hb0, hB⟩, hr, hq⟩, hO, hT, hI, ⟨⟨g, hg⟩, -⟩⟩ := h
  have hl : tx.length ≤ 200 := by obtain ⟨t, -, q, -⟩ := hT; exact q
  have hall := ftR_all hl hby
  rcases hz with ⟨rfl, hne, ⟨a1, t1, v1, m1, o1⟩, ⟨it1, i1⟩, f1⟩ | ⟨rfl, hne, ⟨a1, s1, t1, v1, o1⟩, ⟨it1, i1, hI1⟩, f1⟩
  · skip
    refine V_if_ne (tgt := 15) (Y := mX6_read) (pc := 4) dX6_read_4 (by decide) ⟨by omega, by omega⟩ (fun h_4 => absurd h_4 (by omega)) (fun h_4 => ?_)
    refine V_bipush (Y := mX6_read) (pc := 7) dX6_read_7 ⟨by decide, by decide⟩ ?_
    refine V_aload_n (Y := mX6_read) (pc := 9) dX6_read_9 rfl ?_
    apply V_get (Y := mX6_read) (pc := 10) dX6_read_10 fl_X6_129
    · assumption
    · rfl
    refine V_isub (Y := mX6_read) (pc := 13) dX6_read_13 ?_
    refine V_iret (Y := mX6_read) (pc := 14) dX6_read_14 rfl (Nat.le_of_ble_eq_true rfl) (Nat.le_of_ble_eq_true rfl) ?_
    rw [show fRead (n, now, ca, po, fo, rs) tx = (-10 - (ftR tx).1, (n, now, ca, po, fo, rs)) from if_pos hne] at hQ
    have q := h0.frR (S' := (n, now, ca, po, fo, rs)) o1 ⟨f, (f1 _ (by omega) (by omega)).trans hb0, hB⟩ (hr.keep (f1 _ (by omega) (by omega))) ⟨g, (f1 _ (by omega) (by omega)).trans hg⟩ ⟨it1, i1⟩ (fun j a b c d e => f1 j a e)
    exact hQ w1 q.1 q.2
  · obtain ⟨hsh, hpos⟩ := hall.2.2 hne
    obtain ⟨hp, h5, h6m, hheads, hfirst⟩ := hsh
    have hmm : (((ftR tx).2.2.length : Int) / 5).toNat = ((((ftR tx).2.2.length : Int) / 5).toNat - 1) + 1 := by omega
    have hin := fTells_ind (m := (((ftR tx).2.2.length : Int) / 5).toNat - 1) (hfirst (by omega)) hG vGood_S5
    rw [← hmm] at hin
    have hlt := fTells_lt (ftR tx).2.2 (((ftR tx).2.2.length : Int) / 5).toNat 0 (n, now, ca, po, fo, rs) (by omega)
    have b1 := (f1 100 (by omega) (by omega)).trans hb0
    have g1 := (f1 103 (by omega) (by omega)).trans hg
    refine V_if_ne (tgt := 15) (Y := mX6_read) (pc := 4) dX6_read_4 (by decide) ⟨by omega, by omega⟩ (fun h_4 => ?_) (fun h_4 => absurd h_4 (by omega))
    refine V_iconst (Y := mX6_read) (pc := 15) dX6_read_15 ?_
    refine V_istore_n (Y := mX6_read) (pc := 16) dX6_read_16 rfl ?_
    refine lpm_rdA o1 b1 (fun w2 g2 q1 q2 q3 => ?_) 98 0 w1 g (by omega) (by omega) g1 (fun _ _ => rfl) (fun j hj => by omega)
    have o2 := (q2 99 (by omega)).trans o1
    refine lpm_rd41 (r := fTells (ftR tx).2.2 (((ftR tx).2.2.length : Int) / 5).toNat 0 (n, now, ca, po, fo, rs)) (S := (n, now, ca, po, fo, rs)) o2 ((q2 100 (by omega)).trans b1) hB hG (hr.keep ((q2 104 (by omega)).trans (f1 104 (by omega) (by omega)))) q1 ((q2 106 (by omega)).trans i1) hI1 hall.2.1 rfl (by omega) hheads rfl (by omega) (fun c1 w3 y1 y2 y3 => ?_) (fun c1 w3 f3 y1 y2 y3 y4 y5 => ?_)
    · rw [show fRead (n, now, ca, po, fo, rs) tx = (((ftR tx).2.2.length : Int) / 5, (fTells (ftR tx).2.2 (((ftR tx).2.2.length : Int) / 5).toNat 0 vS5).2) from (if_neg (by omega)).trans (if_neg (by omega)), ← hin.2 c1] at hQ
      obtain ⟨-, B3, r3, -⟩ := y1
      have q := h0.frR (S' := (fTells (ftR tx).2.2 (((ftR tx).2.2.length : Int) / 5).toNat 0 (n, now, ca, po, fo, rs)).2) y2 B3 r3 ⟨g2, (y3 103 (by omega) (by omega) (by omega)).trans q1⟩ ⟨it1, (y3 106 (by omega) (by omega) (by omega)).trans ((q2 106 (by omega)).trans i1)⟩ (fun j a b c d e => (y3 j a b d).trans ((q2 j c).trans (f1 j a e)))
      exact hQ w3 q.1 q.2
    · rw [show fRead (n, now, ca, po, fo, rs) tx = (-1000 - (fTells (ftR tx).2.2 (((ftR tx).2.2.length : Int) / 5).toNat 0 vS5).1, (n, now, ca, po, fo, rs)) from (if_neg (by omega)).trans (if_pos (by omega)), ← hin.1] at hQ
      have q := h0.frR (S' := (n, now, ca, po, fo, rs)) y1 ⟨f3, y2, BkS.ext hB (fun j hj => (y3 j hj).trans (q3 j hj))⟩ y4 ⟨g2, (y5 103 (by omega) (by omega) (by omega)).trans q1⟩ ⟨it1, (y5 106 (by omega) (by omega) (by omega)).trans ((q2 106 (by omega)).trans i1)⟩ (fun j a b c d e => (y5 j a b d).trans ((q2 j c).trans (f1 j a e)))
      exact hQ w3 q.1 q.2
set_option maxRecDepth 100000 in
theorem mx_read (h : MInv w (n, now, ca, po, fo, rs) S0 S1 k0 k1 tx rb rn rf) (hG : vGood (n, now, ca, po, fo, rs)) (hby : byOK tx) : Ctr mX6_read (rm 5) [.ref 99] nn w (pI (fun z w' => z = (fRead (n, now, ca, po, fo, rs) tx).1 ∧ MInv w' (fRead (n, now, ca, po, fo, rs) tx).2 S0 S1 k0 k1 tx rb rn rf ∧ frM w w') nn) := by
  refine Ctr_of (lv := [some (.ref 99), none, none]) (by decide +kernel) rfl rfl ?_
  have h0 := h
  obtain ⟨-, ⟨a0, sp, tk, vl, mn, fd, sv, ho⟩, hT, -, ⟨-, ⟨it, h6⟩, -⟩⟩ := h
  refine V_aload_n (Y := mX6_read) (pc := 0) dX6_read_0 rfl ?_
  apply V_vI (Y := mX6_read) (pc := 1) dX6_read_1 ok_X6_reads ov_X6_reads ln_X6_169 (cm_reads ho hT hby h6)
  · assumption
  · rfl
  · rfl
  · rfl
  · rfl
  · rfl
  rintro z_1 w_1 hz
  exact lpm_rd4 h0 hG hby (fun w' q1 q2 => pI_of ⟨rfl, q1, q2⟩) hz
end MOD
