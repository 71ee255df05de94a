/-! ===== DrawerWall: images, reach, kept ===== -/
noncomputable def spP (ca : Nat) (rs : Nat → List Int) (s d : Int) : Int := aft ca rs s d (iI (-1))
theorem spP_ok {n : Int} {ca : Nat} {rs : Nat → List Int} (hcv : cvOK n rs) : spOK n (p3 n.toNat) (spP ca rs) := fun s d hs hd => aft_rng ca hcv _ hs hd
theorem stp_spP {n : Int} {ca : Nat} {rs : Nat → List Int} {st : List Int} (h : tbIs n ca rs st) (tt tb : Int) : ∀ s d : Int, isS n s → isD n d → stpF st (-1) tt tb s d = spP ca rs s d := by
  intro s d hs hd
  rw [stpF, if_pos (Or.inl (by omega))]
  exact h s d hs hd
theorem rch_res {n now : Int} {ca : Nat} {rs : Nat → List Int} {st : List Int} {F : bF} (hn : 0 ≤ n ∧ n ≤ 7) (hcv : cvOK n rs) (hnow : isS n now) (h : tbIs n ca rs st) {tt tb : Int} (htt : inR tt) (htb : inR tb) (hF : FSh F) (hA : AOK F) : FOK (p3 n.toNat) (spF (stpF st (-1) tt tb) n now F) ∧ AOK (spF (stpF st (-1) tt tb) n now F) ∧ nBar (p3 n.toNat) (spF (stpF st (-1) tt tb) n now F) ∧ (spF (stpF st (-1) tt tb) n now F).2.2.2 = gFnd (spP ca rs) n now := by
  have hok := stpF_ok (tf := -1) (tt := tt) (tb := tb) hn.1 (h.ok hcv) (Or.inl ⟨rfl, htt, htb⟩)
  have h1 := spF_all hn hok hnow hF hA
  exact ⟨h1.1, h1.2.1, h1.2.2.1, h1.2.2.2.trans (gFnd_congr hn.1 hok (stp_spP h tt tb) hnow)⟩
noncomputable def fReach (S : vSt) (a : Int) : Int := if ¬ (0 ≤ a ∧ a ≤ 2) then -2 else if a = 0 then ((gFnd (spP S.2.2.1 S.2.2.2.2.2) S.1 S.2.1).length : Int) else if a = 1 then jmC (spP S.2.2.1 S.2.2.2.2.2) S.1 (gFnd (spP S.2.2.1 S.2.2.2.2.2) S.1 S.2.1) (gFnd (spP S.2.2.1 S.2.2.2.2.2) S.1 S.2.1).length else fst1 (fun s => s ∈ gFnd (spP S.2.2.1 S.2.2.2.2.2) S.1 S.2.1 ∧ jamP (spP S.2.2.1 S.2.2.2.2.2) S.1 s) (p3 S.1.toNat).toNat 0
def kpP (L : List Int) (now v : Int) : Prop := ∀ s ∈ L, sumW v s 7 % 3 = sumW v now 7 % 3
noncomputable def fKept (S : vSt) : Int := fst1 (kpP (gFnd (spP S.2.2.1 S.2.2.2.2.2) S.1 S.2.1) S.2.1) (p3 S.1.toNat - 1).toNat 1
theorem XInv.walk {w w' : vWd} {S S0 S1 : vSt} {k0 k1 rb rn rf : Int} {tx : List Int} (ho : w 0 = some (xO k0 k1 rb rn rf)) (hW : WallAt w 1 S) (hr : XRest w S0 S1 tx) (hf : frK 84 w w') (hK : WkInv w' S.1 S.2.2.1 S.2.2.2.2.2) : XInv w' S S0 S1 k0 k1 tx rb rn rf ∧ frX w w' :=
  ⟨⟨(hf 0 (by omega)).trans ho, hW.keep (fun j a b => hf j (by omega)), hK, hr.keep (fun j a b => hf j (by omega)) (fun j a b => hf j (by omega))⟩, fun j hj => hf j (by omega)⟩
section CLS
variable {nn : Nat} {w : vWd} {n now : Int} {ca po fo : Nat} {rs : Nat → List Int} {S0 S1 : vSt} {k0 k1 rb rn rf : Int} {tx : List Int}
set_option maxRecDepth 100000 in
theorem cx_image {i : Int} (h : XInv w (n, now, ca, po, fo, rs) S0 S1 k0 k1 tx rb rn rf) (hi : inR i) : Ctr mX5_image (rm 3) [.ref 0, vI i] nn w (pI (fun z w' => z = (fImage (n, now, ca, po, fo, rs) S0 S1 k0 k1 i).1 ∧ XInv w' (n, now, ca, po, fo, rs) (fImage (n, now, ca, po, fo, rs) S0 S1 k0 k1 i).2.1 (fImage (n, now, ca, po, fo, rs) S0 S1 k0 k1 i).2.2.1 (fImage (n, now, ca, po, fo, rs) S0 S1 k0 k1 i).2.2.2.1 (fImage (n, now, ca, po, fo, rs) S0 S1 k0 k1 i).2.2.2.2 tx (tl1 (-2) z rb) (tl1 (-3) z rn) (tl1 (-4) z rf) ∧ frX w w') nn) := by
  refine Ctr_of (lv := [some (.ref 0), some (vI i)]) (by decide +kernel) rfl rfl ?_
  obtain ⟨ho, hW, hK, hr⟩ := h
  have hr0 := hr
  obtain ⟨⟨D, hD, hD2⟩, h2, h3, h4, h5, ⟨a6, b6, h6⟩, ⟨a7, b7, h7⟩, ⟨l8, h8⟩⟩ := hr
  obtain ⟨n0, now0, ca0, po0, fo0, rs0⟩ := S0
  obtain ⟨n1, now1, ca1, po1, fo1, rs1⟩ := S1
  have oW := hW.obj
  have o2 := h2.obj
  have o3 := h3.obj
  by_cases hi0 : i = 0
  · subst hi0
    refine V_iload_n (Y := mX5_image) (pc := 0) dX5_image_0 rfl ?_
    refine V_if_lt (tgt := 9) (Y := mX5_image) (pc := 1) dX5_image_1 (by decide) ⟨by omega, by omega⟩ (fun h_1 => absurd h_1 (by omega)) (fun h_1 => ?_)
    refine V_iload_n (Y := mX5_image) (pc := 4) dX5_image_4 rfl ?_
    refine V_iconst (Y := mX5_image) (pc := 5) dX5_image_5 ?_
    refine V_icmp_lt (tgt := 16) (Y := mX5_image) (pc := 6) dX5_image_6 (by decide) ⟨by omega, by omega⟩ ⟨by omega, by omega⟩ (fun h_6 => ?_) (fun h_6 => absurd h_6 (by omega))
    refine V_aload_n (Y := mX5_image) (pc := 16) dX5_image_16 rfl ?_
    refine V_iload_n (Y := mX5_image) (pc := 17) dX5_image_17 rfl ?_
    apply V_vR (Y := mX5_image) (pc := 18) dX5_image_18 ok_X5_imageAt ov_X5_imageAt ln_X5_246 (c_imageAt (i := 0) (q := 39) ho ⟨by omega, by omega⟩ (Or.inl ⟨rfl, rfl⟩))
    · assumption
    · rfl
    · rfl
    · rfl
    · rfl
    · rfl
    refine V_aload_n (Y := mX5_image) (pc := 21) dX5_image_21 rfl ?_
    apply V_get (Y := mX5_image) (pc := 22) dX5_image_22 fl_X5_10
    · assumption
    · rfl
    apply V_vV (Y := mX5_image) (pc := 25) dX5_image_25 ok_X4_copyFrom ov_X4_copyFrom ln_X5_127 (c_wallCopy h2 hW (Or.inr (by omega)))
    · assumption
    · rfl
    · rfl
    · rfl
    · rfl
    · rfl
    rintro w_25 ⟨g1, f1⟩
    have x1 := (f1 0 (by omega)).trans ho
    refine V_iload_n (Y := mX5_image) (pc := 28) dX5_image_28 rfl ?_
    refine V_if_ne (tgt := 40) (Y := mX5_image) (pc := 29) dX5_image_29 (by decide) ⟨by omega, by omega⟩ (fun h_29 => absurd h_29 (by omega)) (fun h_29 => ?_)
    refine V_aload_n (Y := mX5_image) (pc := 32) dX5_image_32 rfl ?_
    refine V_iconst (Y := mX5_image) (pc := 33) dX5_image_33 ?_
    apply V_putzW (Y := mX5_image) (pc := 34) dX5_image_34 fl_X5_25
    · assumption
    · first | exact Or.inl rfl | exact Or.inr rfl
    · exact Nat.le_of_ble_eq_true rfl
    intro w_34 h_34 f_34
    simp only [List.set_cons_zero, List.set_cons_succ] at h_34
    refine V_goto (tgt := 45) (Y := mX5_image) (pc := 37) dX5_image_37 (by decide) ?_
    refine V_iconst (Y := mX5_image) (pc := 45) dX5_image_45 ?_
    refine V_iret (Y := mX5_image) (pc := 46) dX5_image_46 rfl (Nat.le_of_ble_eq_true rfl) (Nat.le_of_ble_eq_true rfl) ?_
    rw [show fImage (n, now, ca, po, fo, rs) (n0, now0, ca0, po0, fo0, rs0) (n1, now1, ca1, po1, fo1, rs1) k0 k1 0 = (1, (n, now, ca, po, fo, rs), (n1, now1, ca1, po1, fo1, rs1), 1, k1) from (if_neg (by omega)).trans (if_pos rfl)]
    have ff : ∀ j, j ≠ 0 → (j < 39 ∨ 58 ≤ j) → w_34 j = w j := fun j a b => (f_34 j a).trans (f1 j (by omega))
    refine pI_of ⟨rfl, XInv.tl0 ⟨h_34, hW.keep (fun j a b => ff j (by omega) (by omega)), hK.keep (fun j a b => ff j (by omega) (by omega)), ⟨D, hD.keep (fun j a b => ff j (by omega) (by omega)), hD2⟩, g1.keep (fun j a b => f_34 j (by omega)), h3.keep (fun j a b => ff j (by omega) (by omega)), h4.keep (ff _ (by omega) (by omega)) (ff _ (by omega) (by omega)), h5.keep (fun j a b => ff j (by omega) (by omega)), ⟨a6, b6, (ff _ (by omega) (by omega)).trans h6⟩, ⟨a7, b7, (ff _ (by omega) (by omega)).trans h7⟩, ⟨l8, h8.keep (ff _ (by omega) (by omega)) (ff _ (by omega) (by omega))⟩⟩ (by omega), fun j hj => ff j (by omega) (by omega)⟩
  · by_cases hi1 : i = 1
    · subst hi1
      refine V_iload_n (Y := mX5_image) (pc := 0) dX5_image_0 rfl ?_
      refine V_if_lt (tgt := 9) (Y := mX5_image) (pc := 1) dX5_image_1 (by decide) ⟨by omega, by omega⟩ (fun h_1 => absurd h_1 (by omega)) (fun h_1 => ?_)
      refine V_iload_n (Y := mX5_image) (pc := 4) dX5_image_4 rfl ?_
      refine V_iconst (Y := mX5_image) (pc := 5) dX5_image_5 ?_
      refine V_icmp_lt (tgt := 16) (Y := mX5_image) (pc := 6) dX5_image_6 (by decide) ⟨by omega, by omega⟩ ⟨by omega, by omega⟩ (fun h_6 => ?_) (fun h_6 => absurd h_6 (by omega))
      refine V_aload_n (Y := mX5_image) (pc := 16) dX5_image_16 rfl ?_
      refine V_iload_n (Y := mX5_image) (pc := 17) dX5_image_17 rfl ?_
      apply V_vR (Y := mX5_image) (pc := 18) dX5_image_18 ok_X5_imageAt ov_X5_imageAt ln_X5_246 (c_imageAt (i := 1) (q := 58) ho ⟨by omega, by omega⟩ (Or.inr ⟨by omega, rfl⟩))
      · assumption
      · rfl
      · rfl
      · rfl
      · rfl
      · rfl
      refine V_aload_n (Y := mX5_image) (pc := 21) dX5_image_21 rfl ?_
      apply V_get (Y := mX5_image) (pc := 22) dX5_image_22 fl_X5_10
      · assumption
      · rfl
      apply V_vV (Y := mX5_image) (pc := 25) dX5_image_25 ok_X4_copyFrom ov_X4_copyFrom ln_X5_127 (c_wallCopy h3 hW (Or.inr (by omega)))
      · assumption
      · rfl
      · rfl
      · rfl
      · rfl
      · rfl
      rintro w_25 ⟨g1, f1⟩
      have x1 := (f1 0 (by omega)).trans ho
      refine V_iload_n (Y := mX5_image) (pc := 28) dX5_image_28 rfl ?_
      refine V_if_ne (tgt := 40) (Y := mX5_image) (pc := 29) dX5_image_29 (by decide) ⟨by omega, by omega⟩ (fun h_29 => ?_) (fun h_29 => absurd h_29 (by omega))
      refine V_aload_n (Y := mX5_image) (pc := 40) dX5_image_40 rfl ?_
      refine V_iconst (Y := mX5_image) (pc := 41) dX5_image_41 ?_
      apply V_putzW (Y := mX5_image) (pc := 42) dX5_image_42 fl_X5_29
      · assumption
      · first | exact Or.inl rfl | exact Or.inr rfl
      · exact Nat.le_of_ble_eq_true rfl
      intro w_42 h_42 f_42
      simp only [List.set_cons_zero, List.set_cons_succ] at h_42
      refine V_iconst (Y := mX5_image) (pc := 45) dX5_image_45 ?_
      refine V_iret (Y := mX5_image) (pc := 46) dX5_image_46 rfl (Nat.le_of_ble_eq_true rfl) (Nat.le_of_ble_eq_true rfl) ?_
      rw [show fImage (n, now, ca, po, fo, rs) (n0, now0, ca0, po0, fo0, rs0) (n1, now1, ca1, po1, fo1, rs1) k0 k1 1 = (1, (n0, now0, ca0, po0, fo0, rs0), (n, now, ca, po, fo, rs), k0, 1) from (if_neg (by omega)).trans (if_neg hi0)]
      have ff : ∀ j, j ≠ 0 → (j < 58 ∨ 77 ≤ j) → w_42 j = w j := fun j a b => (f_42 j a).trans (f1 j (by omega))
      refine pI_of ⟨rfl, XInv.tl0 ⟨h_42, hW.keep (fun j a b => ff j (by omega) (by omega)), hK.keep (fun j a b => ff j (by omega) (by omega)), ⟨D, hD.keep (fun j a b => ff j (by omega) (by omega)), hD2⟩, h2.keep (fun j a b => ff j (by omega) (by omega)), g1.keep (fun j a b => f_42 j (by omega)), h4.keep (ff _ (by omega) (by omega)) (ff _ (by omega) (by omega)), h5.keep (fun j a b => ff j (by omega) (by omega)), ⟨a6, b6, (ff _ (by omega) (by omega)).trans h6⟩, ⟨a7, b7, (ff _ (by omega) (by omega)).trans h7⟩, ⟨l8, h8.keep (ff _ (by omega) (by omega)) (ff _ (by omega) (by omega))⟩⟩ (by omega), fun j hj => ff j (by omega) (by omega)⟩
    · skip
      refine V_iload_n (Y := mX5_image) (pc := 0) dX5_image_0 rfl ?_
      refine V_if_lt (tgt := 9) (Y := mX5_image) (pc := 1) dX5_image_1 (by decide) ⟨by omega, by omega⟩ (fun h_1 => ?_) (fun h_1 => ?_)
      · refine V_aload_n (Y := mX5_image) (pc := 9) dX5_image_9 rfl ?_
        refine V_bipush (Y := mX5_image) (pc := 10) dX5_image_10 ⟨by decide, by decide⟩ ?_
        apply V_vI (Y := mX5_image) (pc := 12) dX5_image_12 ok_X5_counted ov_X5_counted ln_X5_85 (c_told (z := -2) ho ⟨by omega, by omega⟩)
        · assumption
        · rfl
        · rfl
        · rfl
        · rfl
        · rfl
        rintro z_12 w_12 ⟨hz2, g3, f3⟩
        subst hz2
        refine V_iret (Y := mX5_image) (pc := 15) dX5_image_15 rfl (Nat.le_of_ble_eq_true rfl) (Nat.le_of_ble_eq_true rfl) ?_
        rw [show fImage (n, now, ca, po, fo, rs) (n0, now0, ca0, po0, fo0, rs0) (n1, now1, ca1, po1, fo1, rs1) k0 k1 i = (-2, (n0, now0, ca0, po0, fo0, rs0), (n1, now1, ca1, po1, fo1, rs1), k0, k1) from if_pos (by omega)]
        exact pI_of ⟨rfl, XInv.told hr0 hW hK (fun j hj => rfl) g3 f3⟩
      · refine V_iload_n (Y := mX5_image) (pc := 4) dX5_image_4 rfl ?_
        refine V_iconst (Y := mX5_image) (pc := 5) dX5_image_5 ?_
        refine V_icmp_lt (tgt := 16) (Y := mX5_image) (pc := 6) dX5_image_6 (by decide) ⟨by omega, by omega⟩ ⟨by omega, by omega⟩ (fun h_6 => ?_) (fun h_6 => ?_)
        · exfalso; omega
        · refine V_aload_n (Y := mX5_image) (pc := 9) dX5_image_9 rfl ?_
          refine V_bipush (Y := mX5_image) (pc := 10) dX5_image_10 ⟨by decide, by decide⟩ ?_
          apply V_vI (Y := mX5_image) (pc := 12) dX5_image_12 ok_X5_counted ov_X5_counted ln_X5_85 (c_told (z := -2) ho ⟨by omega, by omega⟩)
          · assumption
          · rfl
          · rfl
          · rfl
          · rfl
          · rfl
          rintro z_12 w_12 ⟨hz2, g3, f3⟩
          subst hz2
          refine V_iret (Y := mX5_image) (pc := 15) dX5_image_15 rfl (Nat.le_of_ble_eq_true rfl) (Nat.le_of_ble_eq_true rfl) ?_
          rw [show fImage (n, now, ca, po, fo, rs) (n0, now0, ca0, po0, fo0, rs0) (n1, now1, ca1, po1, fo1, rs1) k0 k1 i = (-2, (n0, now0, ca0, po0, fo0, rs0), (n1, now1, ca1, po1, fo1, rs1), k0, k1) from if_pos (by omega)]
          exact pI_of ⟨rfl, XInv.told hr0 hW hK (fun j hj => rfl) g3 f3⟩
theorem WkInv.forget {w' : vWd} {n' : Int} {ca' : Nat} {rs' : Nat → List Int} {dn sn tt tb : Int} {st : List Int} {F : bF} (h : WalkAt w' 84 0 dn sn (-1) tt tb st F) (h2 : st.length = 15309 ∧ FSh F ∧ AOK F ∧ inR tt ∧ inR tb) : WkInv w' n' ca' rs' :=
  ⟨0, dn, sn, tt, tb, st, F, h, Or.inl rfl, h2⟩
set_option maxRecDepth 100000 in
theorem cx_from {i : Int} (h : XInv w (n, now, ca, po, fo, rs) S0 S1 k0 k1 tx rb rn rf) (hi : inR i) (hk0 : k0 = 0 ∨ k0 = 1) (hk1 : k1 = 0 ∨ k1 = 1) : Ctr mX5_from (rm 3) [.ref 0, vI i] nn w (pI (fun z w' => z = (fFrom (n, now, ca, po, fo, rs) S0 S1 k0 k1 i).1 ∧ XInv w' (fFrom (n, now, ca, po, fo, rs) S0 S1 k0 k1 i).2 S0 S1 k0 k1 tx (tl1 (-2) z rb) (tl1 (-3) z rn) (tl1 (-4) z rf) ∧ frX w w') nn) := by
  refine Ctr_of (lv := [some (.ref 0), some (vI i), none]) (by decide +kernel) rfl rfl ?_
  obtain ⟨ho, hW, hK, hr⟩ := h
  have hr0 := hr
  obtain ⟨⟨D, hD, hD2⟩, h2, h3, h4, h5, ⟨a6, b6, h6⟩, ⟨a7, b7, h7⟩, ⟨l8, h8⟩⟩ := hr
  obtain ⟨n0, now0, ca0, po0, fo0, rs0⟩ := S0
  obtain ⟨n1, now1, ca1, po1, fo1, rs1⟩ := S1
  have hK0 := hK
  obtain ⟨lr, dn, sn, tt, tb, st, F, hk, hlr, hlen, hsh, haok, htt, htb⟩ := hK
  have oW := hW.obj
  have o2 := h2.obj
  have o3 := h3.obj
  have ok := hk.obj
  by_cases hi0 : i = 0
  · subst hi0
    refine V_iload_n (Y := mX5_from) (pc := 0) dX5_from_0 rfl ?_
    refine V_if_lt (tgt := 9) (Y := mX5_from) (pc := 1) dX5_from_1 (by decide) ⟨by omega, by omega⟩ (fun h_1 => absurd h_1 (by omega)) (fun h_1 => ?_)
    refine V_iload_n (Y := mX5_from) (pc := 4) dX5_from_4 rfl ?_
    refine V_iconst (Y := mX5_from) (pc := 5) dX5_from_5 ?_
    refine V_icmp_lt (tgt := 16) (Y := mX5_from) (pc := 6) dX5_from_6 (by decide) ⟨by omega, by omega⟩ ⟨by omega, by omega⟩ (fun h_6 => ?_) (fun h_6 => absurd h_6 (by omega))
    refine V_iload_n (Y := mX5_from) (pc := 16) dX5_from_16 rfl ?_
    refine V_if_ne (tgt := 27) (Y := mX5_from) (pc := 17) dX5_from_17 (by decide) ⟨by omega, by omega⟩ (fun h_17 => absurd h_17 (by omega)) (fun h_17 => ?_)
    refine V_aload_n (Y := mX5_from) (pc := 20) dX5_from_20 rfl ?_
    apply V_get (Y := mX5_from) (pc := 21) dX5_from_21 fl_X5_25
    · assumption
    · rfl
    refine V_goto (tgt := 31) (Y := mX5_from) (pc := 24) dX5_from_24 (by decide) ?_
    refine V_istore_n (Y := mX5_from) (pc := 31) dX5_from_31 rfl ?_
    refine V_iload_n (Y := mX5_from) (pc := 32) dX5_from_32 rfl ?_
    refine V_if_ne (tgt := 43) (Y := mX5_from) (pc := 33) dX5_from_33 (by decide) ⟨by omega, by omega⟩ (fun h_33 => ?_) (fun h_33 => ?_)
    · refine V_aload_n (Y := mX5_from) (pc := 43) dX5_from_43 rfl ?_
      apply V_get (Y := mX5_from) (pc := 44) dX5_from_44 fl_X5_10
      · assumption
      · rfl
      refine V_aload_n (Y := mX5_from) (pc := 47) dX5_from_47 rfl ?_
      refine V_iload_n (Y := mX5_from) (pc := 48) dX5_from_48 rfl ?_
      apply V_vR (Y := mX5_from) (pc := 49) dX5_from_49 ok_X5_imageAt ov_X5_imageAt ln_X5_246 (c_imageAt (i := 0) (q := 39) ho ⟨by omega, by omega⟩ (Or.inl ⟨rfl, rfl⟩))
      · assumption
      · rfl
      · rfl
      · rfl
      · rfl
      · rfl
      apply V_vV (Y := mX5_from) (pc := 52) dX5_from_52 ok_X4_copyFrom ov_X4_copyFrom ln_X5_127 (c_wallCopy hW h2 (Or.inl (by omega)))
      · assumption
      · rfl
      · rfl
      · rfl
      · rfl
      · rfl
      rintro w_52 ⟨g1, f1⟩
      have x1 := (f1 0 (by omega)).trans ho
      have kk := hk.keep (fun j a b => f1 j (by omega))
      have ok1 := kk.obj
      refine V_aload_n (Y := mX5_from) (pc := 55) dX5_from_55 rfl ?_
      apply V_get (Y := mX5_from) (pc := 56) dX5_from_56 fl_X5_51
      · assumption
      · rfl
      apply V_vV (Y := mX5_from) (pc := 59) dX5_from_59 ok_X3_forget ov_X3_forget ln_X5_78 (c_forget kk)
      · assumption
      · rfl
      · rfl
      · rfl
      · rfl
      · rfl
      rintro w_59 ⟨g2, f2⟩
      have ff : ∀ j, (j < 1 ∨ 20 ≤ j) → (j < 84 ∨ 95 ≤ j) → w_59 j = w j := fun j a b => (f2 j (by omega)).trans (f1 j (by omega))
      refine V_iconst (Y := mX5_from) (pc := 62) dX5_from_62 ?_
      refine V_iret (Y := mX5_from) (pc := 63) dX5_from_63 rfl (Nat.le_of_ble_eq_true rfl) (Nat.le_of_ble_eq_true rfl) ?_
      rw [show fFrom (n, now, ca, po, fo, rs) (n0, now0, ca0, po0, fo0, rs0) (n1, now1, ca1, po1, fo1, rs1) k0 k1 0 = (1, (n0, now0, ca0, po0, fo0, rs0)) from (if_neg (by omega)).trans ((if_pos rfl).trans (if_neg (by omega)))]
      exact pI_of ⟨rfl, XInv.tl0 ⟨(ff 0 (by omega) (by omega)).trans ho, g1.keep (fun j a b => f2 j (by omega)), WkInv.forget g2 ⟨hlen, hsh, haok, htt, htb⟩, hr0.keep (fun j a b => ff j (by omega) (by omega)) (fun j a b => ff j (by omega) (by omega))⟩ (by omega), fun j hj => ff j (by omega) (by omega)⟩
    · refine V_aload_n (Y := mX5_from) (pc := 36) dX5_from_36 rfl ?_
      refine V_bipush (Y := mX5_from) (pc := 37) dX5_from_37 ⟨by decide, by decide⟩ ?_
      apply V_vI (Y := mX5_from) (pc := 39) dX5_from_39 ok_X5_counted ov_X5_counted ln_X5_85 (c_told (z := -3) ho ⟨by omega, by omega⟩)
      · assumption
      · rfl
      · rfl
      · rfl
      · rfl
      · rfl
      rintro z_39 w_39 ⟨hz2, g3, f3⟩
      subst hz2
      refine V_iret (Y := mX5_from) (pc := 42) dX5_from_42 rfl (Nat.le_of_ble_eq_true rfl) (Nat.le_of_ble_eq_true rfl) ?_
      rw [show fFrom (n, now, ca, po, fo, rs) (n0, now0, ca0, po0, fo0, rs0) (n1, now1, ca1, po1, fo1, rs1) k0 k1 0 = (-3, (n, now, ca, po, fo, rs)) from (if_neg (by omega)).trans ((if_pos rfl).trans (if_pos (by omega)))]
      exact pI_of ⟨rfl, XInv.told hr0 hW hK0 (fun j hj => rfl) g3 f3⟩
  · by_cases hi1 : i = 1
    · subst hi1
      refine V_iload_n (Y := mX5_from) (pc := 0) dX5_from_0 rfl ?_
      refine V_if_lt (tgt := 9) (Y := mX5_from) (pc := 1) dX5_from_1 (by decide) ⟨by omega, by omega⟩ (fun h_1 => absurd h_1 (by omega)) (fun h_1 => ?_)
      refine V_iload_n (Y := mX5_from) (pc := 4) dX5_from_4 rfl ?_
      refine V_iconst (Y := mX5_from) (pc := 5) dX5_from_5 ?_
      refine V_icmp_lt (tgt := 16) (Y := mX5_from) (pc := 6) dX5_from_6 (by decide) ⟨by omega, by omega⟩ ⟨by omega, by omega⟩ (fun h_6 => ?_) (fun h_6 => absurd h_6 (by omega))
      refine V_iload_n (Y := mX5_from) (pc := 16) dX5_from_16 rfl ?_
      refine V_if_ne (tgt := 27) (Y := mX5_from) (pc := 17) dX5_from_17 (by decide) ⟨by omega, by omega⟩ (fun h_17 => ?_) (fun h_17 => absurd h_17 (by omega))
      refine V_aload_n (Y := mX5_from) (pc := 27) dX5_from_27 rfl ?_
      apply V_get (Y := mX5_from) (pc := 28) dX5_from_28 fl_X5_29
      · assumption
      · rfl
      refine V_istore_n (Y := mX5_from) (pc := 31) dX5_from_31 rfl ?_
      refine V_iload_n (Y := mX5_from) (pc := 32) dX5_from_32 rfl ?_
      refine V_if_ne (tgt := 43) (Y := mX5_from) (pc := 33) dX5_from_33 (by decide) ⟨by omega, by omega⟩ (fun h_33 => ?_) (fun h_33 => ?_)
      · refine V_aload_n (Y := mX5_from) (pc := 43) dX5_from_43 rfl ?_
        apply V_get (Y := mX5_from) (pc := 44) dX5_from_44 fl_X5_10
        · assumption
        · rfl
        refine V_aload_n (Y := mX5_from) (pc := 47) dX5_from_47 rfl ?_
        refine V_iload_n (Y := mX5_from) (pc := 48) dX5_from_48 rfl ?_
        apply V_vR (Y := mX5_from) (pc := 49) dX5_from_49 ok_X5_imageAt ov_X5_imageAt ln_X5_246 (c_imageAt (i := 1) (q := 58) ho ⟨by omega, by omega⟩ (Or.inr ⟨by omega, rfl⟩))
        · assumption
        · rfl
        · rfl
        · rfl
        · rfl
        · rfl
        apply V_vV (Y := mX5_from) (pc := 52) dX5_from_52 ok_X4_copyFrom ov_X4_copyFrom ln_X5_127 (c_wallCopy hW h3 (Or.inl (by omega)))
        · assumption
        · rfl
        · rfl
        · rfl
        · rfl
        · rfl
        rintro w_52 ⟨g1, f1⟩
        have x1 := (f1 0 (by omega)).trans ho
        have kk := hk.keep (fun j a b => f1 j (by omega))
        have ok1 := kk.obj
        refine V_aload_n (Y := mX5_from) (pc := 55) dX5_from_55 rfl ?_
        apply V_get (Y := mX5_from) (pc := 56) dX5_from_56 fl_X5_51
        · assumption
        · rfl
        apply V_vV (Y := mX5_from) (pc := 59) dX5_from_59 ok_X3_forget ov_X3_forget ln_X5_78 (c_forget kk)
        · assumption
        · rfl
        · rfl
        · rfl
        · rfl
        · rfl
        rintro w_59 ⟨g2, f2⟩
        have ff : ∀ j, (j < 1 ∨ 20 ≤ j) → (j < 84 ∨ 95 ≤ j) → w_59 j = w j := fun j a b => (f2 j (by omega)).trans (f1 j (by omega))
        refine V_iconst (Y := mX5_from) (pc := 62) dX5_from_62 ?_
        refine V_iret (Y := mX5_from) (pc := 63) dX5_from_63 rfl (Nat.le_of_ble_eq_true rfl) (Nat.le_of_ble_eq_true rfl) ?_
        rw [show fFrom (n, now, ca, po, fo, rs) (n0, now0, ca0, po0, fo0, rs0) (n1, now1, ca1, po1, fo1, rs1) k0 k1 1 = (1, (n1, now1, ca1, po1, fo1, rs1)) from (if_neg (by omega)).trans ((if_neg hi0).trans (if_neg (by omega)))]
        exact pI_of ⟨rfl, XInv.tl0 ⟨(ff 0 (by omega) (by omega)).trans ho, g1.keep (fun j a b => f2 j (by omega)), WkInv.forget g2 ⟨hlen, hsh, haok, htt, htb⟩, hr0.keep (fun j a b => ff j (by omega) (by omega)) (fun j a b => ff j (by omega) (by omega))⟩ (by omega), fun j hj => ff j (by omega) (by omega)⟩
      · refine V_aload_n (Y := mX5_from) (pc := 36) dX5_from_36 rfl ?_
        refine V_bipush (Y := mX5_from) (pc := 37) dX5_from_37 ⟨by decide, by decide⟩ ?_
        apply V_vI (Y := mX5_from) (pc := 39) dX5_from_39 ok_X5_counted ov_X5_counted ln_X5_85 (c_told (z := -3) ho ⟨by omega, by omega⟩)
        · assumption
        · rfl
        · rfl
        · rfl
        · rfl
        · rfl
        rintro z_39 w_39 ⟨hz2, g3, f3⟩
        subst hz2
        refine V_iret (Y := mX5_from) (pc := 42) dX5_from_42 rfl (Nat.le_of_ble_eq_true rfl) (Nat.le_of_ble_eq_true rfl) ?_
        rw [show fFrom (n, now, ca, po, fo, rs) (n0, now0, ca0, po0, fo0, rs0) (n1, now1, ca1, po1, fo1, rs1) k0 k1 1 = (-3, (n, now, ca, po, fo, rs)) from (if_neg (by omega)).trans ((if_neg hi0).trans (if_pos (by omega)))]
        exact pI_of ⟨rfl, XInv.told hr0 hW hK0 (fun j hj => rfl) g3 f3⟩
    · skip
      refine V_iload_n (Y := mX5_from) (pc := 0) dX5_from_0 rfl ?_
      refine V_if_lt (tgt := 9) (Y := mX5_from) (pc := 1) dX5_from_1 (by decide) ⟨by omega, by omega⟩ (fun h_1 => ?_) (fun h_1 => ?_)
      · refine V_aload_n (Y := mX5_from) (pc := 9) dX5_from_9 rfl ?_
        refine V_bipush (Y := mX5_from) (pc := 10) dX5_from_10 ⟨by decide, by decide⟩ ?_
        apply V_vI (Y := mX5_from) (pc := 12) dX5_from_12 ok_X5_counted ov_X5_counted ln_X5_85 (c_told (z := -2) ho ⟨by omega, by omega⟩)
        · assumption
        · rfl
        · rfl
        · rfl
        · rfl
        · rfl
        rintro z_12 w_12 ⟨hz2, g3, f3⟩
        subst hz2
        refine V_iret (Y := mX5_from) (pc := 15) dX5_from_15 rfl (Nat.le_of_ble_eq_true rfl) (Nat.le_of_ble_eq_true rfl) ?_
        rw [show fFrom (n, now, ca, po, fo, rs) (n0, now0, ca0, po0, fo0, rs0) (n1, now1, ca1, po1, fo1, rs1) k0 k1 i = (-2, (n, now, ca, po, fo, rs)) from if_pos (by omega)]
        exact pI_of ⟨rfl, XInv.told hr0 hW hK0 (fun j hj => rfl) g3 f3⟩
      · refine V_iload_n (Y := mX5_from) (pc := 4) dX5_from_4 rfl ?_
        refine V_iconst (Y := mX5_from) (pc := 5) dX5_from_5 ?_
        refine V_icmp_lt (tgt := 16) (Y := mX5_from) (pc := 6) dX5_from_6 (by decide) ⟨by omega, by omega⟩ ⟨by omega, by omega⟩ (fun h_6 => ?_) (fun h_6 => ?_)
        · exfalso; omega
        · refine V_aload_n (Y := mX5_from) (pc := 9) dX5_from_9 rfl ?_
          refine V_bipush (Y := mX5_from) (pc := 10) dX5_from_10 ⟨by decide, by decide⟩ ?_
          apply V_vI (Y := mX5_from) (pc := 12) dX5_from_12 ok_X5_counted ov_X5_counted ln_X5_85 (c_told (z := -2) ho ⟨by omega, by omega⟩)
          · assumption
          · rfl
          · rfl
          · rfl
          · rfl
          · rfl
          rintro z_12 w_12 ⟨hz2, g3, f3⟩
          subst hz2
          refine V_iret (Y := mX5_from) (pc := 15) dX5_from_15 rfl (Nat.le_of_ble_eq_true rfl) (Nat.le_of_ble_eq_true rfl) ?_
          rw [show fFrom (n, now, ca, po, fo, rs) (n0, now0, ca0, po0, fo0, rs0) (n1, now1, ca1, po1, fo1, rs1) k0 k1 i = (-2, (n, now, ca, po, fo, rs)) from if_pos (by omega)]
          exact pI_of ⟨rfl, XInv.told hr0 hW hK0 (fun j hj => rfl) g3 f3⟩
set_option maxRecDepth 100000 in
theorem c_reached {tf tt tb : Int} {st : List Int} {F : bF} (ho : w 0 = some (xO k0 k1 rb rn rf)) (hW : WallAt w 1 (n, now, ca, po, fo, rs)) (hk : WalkAt w 84 1 n (p3 n.toNat) tf tt tb st F) (hn : 0 ≤ n ∧ n ≤ 7) (hnow : isS n now) (ht : tbOK n st) (htd : tdOK n tf tt tb) (hF : FSh F) : Ctr mX5_walkFromNow (rm 5) [.ref 0] nn w (pI (fun z w' => z = ((spF (stpF st tf tt tb) n now F).2.2.2.length : Int) ∧ WalkAt w' 84 1 n (p3 n.toNat) tf tt tb st (spF (stpF st tf tt tb) n now F) ∧ frK 84 w w') nn) := by
  refine Ctr_of (lv := [some (.ref 0)]) (by decide +kernel) rfl rfl ?_
  have oW := hW.obj
  have ok := hk.obj
  have hp := p3_le n.toNat (by omega)
  have hp0 := p3_pos n.toNat
  refine V_aload_n (Y := mX5_walkFromNow) (pc := 0) dX5_walkFromNow_0 rfl ?_
  apply V_get (Y := mX5_walkFromNow) (pc := 1) dX5_walkFromNow_1 fl_X5_51
  · assumption
  · rfl
  apply V_vV (Y := mX5_walkFromNow) (pc := 4) dX5_walkFromNow_4 ok_X3_begin ov_X3_begin ln_X5_269 (c_begin hk ⟨by omega, hp⟩)
  · assumption
  · rfl
  · rfl
  · rfl
  · rfl
  · rfl
  rintro w_4 ⟨g1, f1⟩
  have x1 := (f1 0 (by omega)).trans ho
  have y1 := (f1 1 (by omega)).trans oW
  have z1 := g1.obj
  refine V_aload_n (Y := mX5_walkFromNow) (pc := 7) dX5_walkFromNow_7 rfl ?_
  apply V_get (Y := mX5_walkFromNow) (pc := 8) dX5_walkFromNow_8 fl_X5_51
  · assumption
  · rfl
  refine V_aload_n (Y := mX5_walkFromNow) (pc := 11) dX5_walkFromNow_11 rfl ?_
  apply V_get (Y := mX5_walkFromNow) (pc := 12) dX5_walkFromNow_12 fl_X5_10
  · assumption
  · rfl
  apply V_get (Y := mX5_walkFromNow) (pc := 15) dX5_walkFromNow_15 fl_X5_141
  · assumption
  · rfl
  apply V_vV (Y := mX5_walkFromNow) (pc := 18) dX5_walkFromNow_18 ok_X3_spread ov_X3_spread ln_X5_272 (c_spread (s := now) g1 hn ht htd (FOK_bg hF ⟨by omega, hp⟩) hnow)
  · assumption
  · rfl
  · rfl
  · rfl
  · rfl
  · rfl
  rintro w_18 ⟨g2, f2⟩
  have x2 := (f2 0 (by omega)).trans x1
  have z2 := g2.obj
  refine V_aload_n (Y := mX5_walkFromNow) (pc := 21) dX5_walkFromNow_21 rfl ?_
  apply V_get (Y := mX5_walkFromNow) (pc := 22) dX5_walkFromNow_22 fl_X5_51
  · assumption
  · rfl
  apply V_get (Y := mX5_walkFromNow) (pc := 25) dX5_walkFromNow_25 fl_X5_275
  · assumption
  · rfl
  apply V_vR (Y := mX5_walkFromNow) (pc := 28) dX5_walkFromNow_28 ok_X2_size ov_X2_size ln_X5_109 (c_Row_size g2.r4)
  · exact g2.r4.obj
  · rfl
  · rfl
  · rfl
  · rfl
  · rfl
  refine V_iret (Y := mX5_walkFromNow) (pc := 31) dX5_walkFromNow_31 rfl (Nat.le_of_ble_eq_true rfl) (Nat.le_of_ble_eq_true rfl) ?_
  exact pI_of ⟨rfl, g2, fun j hj => (f2 j hj).trans (f1 j hj)⟩
set_option maxRecDepth 100000 in
theorem cx_reach {a : Int} (h : XInv w (n, now, ca, po, fo, rs) S0 S1 k0 k1 tx rb rn rf) (hG : vGood (n, now, ca, po, fo, rs)) (ha : inR a) : Ctr mX5_reach (rm 6) [.ref 0, vI a] nn w (pI (fun z w' => z = fReach (n, now, ca, po, fo, rs) a ∧ XInv w' (n, now, ca, po, fo, rs) S0 S1 k0 k1 tx (tl1 (-2) z rb) (tl1 (-3) z rn) (tl1 (-4) z rf) ∧ frX w w') nn) := by
  refine Ctr_of (lv := [some (.ref 0), some (vI a), none]) (by decide +kernel) rfl rfl ?_
  obtain ⟨ho, hW, hK, hr⟩ := h
  obtain ⟨hn, hnow, hca, hpo, hfo, hgd, hcv, hor, hsg, hpast⟩ := hG.un
  have hK0 := hK
  obtain ⟨lr, dn, sn, tt, tb, st, F, hk, hlr, hlen, hsh, haok, htt, htb⟩ := hK
  have oW := hW.obj
  have ok := hk.obj
  have hn7 : 0 ≤ n ∧ n ≤ 7 := ⟨by omega, by omega⟩
  have hp := p3_le n.toNat (by omega)
  have hp0 := p3_pos n.toNat
  refine V_iload_n (Y := mX5_reach) (pc := 0) dX5_reach_0 rfl ?_
  refine V_if_lt (tgt := 9) (Y := mX5_reach) (pc := 1) dX5_reach_1 (by decide) ⟨by omega, by omega⟩ (fun h_1 => ?_) (fun h_1 => ?_)
  · refine V_aload_n (Y := mX5_reach) (pc := 9) dX5_reach_9 rfl ?_
    refine V_bipush (Y := mX5_reach) (pc := 10) dX5_reach_10 ⟨by decide, by decide⟩ ?_
    apply V_vI (Y := mX5_reach) (pc := 12) dX5_reach_12 ok_X5_counted ov_X5_counted ln_X5_85 (c_told (z := -2) ho ⟨by omega, by omega⟩)
    · assumption
    · rfl
    · rfl
    · rfl
    · rfl
    · rfl
    rintro z_12 w_12 ⟨hz2, g3, f3⟩
    subst hz2
    refine V_iret (Y := mX5_reach) (pc := 15) dX5_reach_15 rfl (Nat.le_of_ble_eq_true rfl) (Nat.le_of_ble_eq_true rfl) ?_
    rw [show fReach (n, now, ca, po, fo, rs) a = -2 from if_pos (by omega)]
    exact pI_of ⟨rfl, XInv.told hr hW hK0 (fun j hj => rfl) g3 f3⟩
  · refine V_iload_n (Y := mX5_reach) (pc := 4) dX5_reach_4 rfl ?_
    refine V_iconst (Y := mX5_reach) (pc := 5) dX5_reach_5 ?_
    refine V_icmp_le (tgt := 16) (Y := mX5_reach) (pc := 6) dX5_reach_6 (by decide) ⟨by omega, by omega⟩ ⟨by omega, by omega⟩ (fun h_6 => ?_) (fun h_6 => ?_)
    · refine V_aload_n (Y := mX5_reach) (pc := 16) dX5_reach_16 rfl ?_
      apply V_get (Y := mX5_reach) (pc := 17) dX5_reach_17 fl_X5_51
      · assumption
      · rfl
      refine V_aload_n (Y := mX5_reach) (pc := 20) dX5_reach_20 rfl ?_
      apply V_get (Y := mX5_reach) (pc := 21) dX5_reach_21 fl_X5_10
      · assumption
      · rfl
      apply V_vV (Y := mX5_reach) (pc := 24) dX5_reach_24 ok_X3_learn ov_X3_learn ln_X5_160 (c_learn hk hW hn7 hcv hca (by omega) hlr hlen)
      · assumption
      · rfl
      · rfl
      · rfl
      · rfl
      · rfl
      rintro w_24 ⟨st2, g1, hlen2, htbl, f1⟩
      have hres := rch_res hn7 hcv hnow htbl htt htb hsh haok
      have x1 := (f1 0 (by omega)).trans ho
      have W1 := hW.keep (fun j a b => f1 j (by omega))
      refine V_aload_n (Y := mX5_reach) (pc := 27) dX5_reach_27 rfl ?_
      apply V_vI (Y := mX5_reach) (pc := 28) dX5_reach_28 ok_X5_walkFromNow ov_X5_walkFromNow ln_X5_167 (c_reached x1 W1 g1 hn7 hnow (htbl.ok hcv) (Or.inl ⟨rfl, htt, htb⟩) hsh)
      · assumption
      · rfl
      · rfl
      · rfl
      · rfl
      · rfl
      rintro z_28 w_28 ⟨hz, g2, f2⟩
      have x2 := (f2 0 (by omega)).trans x1
      have z2 := g2.obj
      have hlF := hres.1.len
      have hK2 : WkInv w_28 n ca rs := ⟨1, n, _, tt, tb, st2, _, g2, Or.inr ⟨rfl, rfl, rfl, htbl⟩, hlen2, hres.1.sh, hres.2.1, htt, htb⟩
      have hX := XInv.walk ho hW hr (fun j hj => (f2 j hj).trans (f1 j hj)) hK2
      have hjr := jmC_rng (stpF st2 (-1) tt tb) n (spF (stpF st2 (-1) tt tb) n now F).2.2.2 (spF (stpF st2 (-1) tt tb) n now F).2.2.2.length
      have hfr := fst1_rng (P := fun s => rAt (spF (stpF st2 (-1) tt tb) n now F).1 s ≠ -1 ∧ jamP (stpF st2 (-1) tt tb) n s) (p3 n.toNat).toNat 0
      refine V_istore_n (Y := mX5_reach) (pc := 31) dX5_reach_31 rfl ?_
      refine V_iload_n (Y := mX5_reach) (pc := 32) dX5_reach_32 rfl ?_
      refine V_if_ne (tgt := 38) (Y := mX5_reach) (pc := 33) dX5_reach_33 (by decide) ⟨by omega, by omega⟩ (fun h_33 => ?_) (fun h_33 => ?_)
      · refine V_iload_n (Y := mX5_reach) (pc := 38) dX5_reach_38 rfl ?_
        refine V_iconst (Y := mX5_reach) (pc := 39) dX5_reach_39 ?_
        refine V_icmp_ne (tgt := 53) (Y := mX5_reach) (pc := 40) dX5_reach_40 (by decide) ⟨by omega, by omega⟩ ⟨by omega, by omega⟩ (fun h_40 => ?_) (fun h_40 => ?_)
        · refine V_aload_n (Y := mX5_reach) (pc := 53) dX5_reach_53 rfl ?_
          apply V_get (Y := mX5_reach) (pc := 54) dX5_reach_54 fl_X5_51
          · assumption
          · rfl
          apply V_vR (Y := mX5_reach) (pc := 57) dX5_reach_57 ok_X3_leastJam ov_X3_leastJam ln_X5_173 (c_leastJam g2 hn7 (htbl.ok hcv) (Or.inl ⟨rfl, htt, htb⟩) hres.1)
          · assumption
          · rfl
          · rfl
          · rfl
          · rfl
          · rfl
          refine V_iret (Y := mX5_reach) (pc := 60) dX5_reach_60 rfl (Nat.le_of_ble_eq_true rfl) (Nat.le_of_ble_eq_true rfl) ?_
          first
            | (exfalso; omega)
            | (have e : fReach (n, now, ca, po, fo, rs) a = jmC (spP ca rs) n (gFnd (spP ca rs) n now) (gFnd (spP ca rs) n now).length := (if_neg (by omega)).trans ((if_neg (by omega)).trans (if_pos (by omega)))
               have e2 := jmC_congr (stp_spP htbl tt tb) (gFnd_in hn7.1 (spP_ok hcv) hnow) _ (Nat.le_refl (gFnd (spP ca rs) n now).length)
               refine pI_of ⟨?_, hX.1.tl0 (by omega), hX.2⟩
               rw [e, ← e2, hres.2.2.2])
            | (have e : fReach (n, now, ca, po, fo, rs) a = fst1 (fun s => s ∈ gFnd (spP ca rs) n now ∧ jamP (spP ca rs) n s) (p3 n.toNat).toNat 0 := (if_neg (by omega)).trans ((if_neg (by omega)).trans (if_neg (by omega)))
               refine pI_of ⟨?_, hX.1.tl0 (by omega), hX.2⟩
               rw [e]
               refine fst1_congr _ 0 (fun s h1 h2 => ?_)
               have hs : isS n s := ⟨h1, by omega⟩
               have hm := met_iff hres.1 hres.2.2.1 hs
               rw [hres.2.2.2] at hm
               refine ⟨fun q => ⟨Decidable.byContradiction (fun q2 => q.1 (hm.mpr q2)), fun d hd => ?_⟩, fun q => ⟨fun q2 => hm.mp q2 q.1, fun d hd => ?_⟩⟩
               · rw [← stp_spP htbl tt tb s d hs hd]; exact q.2 d hd
               · rw [stp_spP htbl tt tb s d hs hd]; exact q.2 d hd)
        · refine V_aload_n (Y := mX5_reach) (pc := 43) dX5_reach_43 rfl ?_
          apply V_get (Y := mX5_reach) (pc := 44) dX5_reach_44 fl_X5_51
          · assumption
          · rfl
          apply V_vR (Y := mX5_reach) (pc := 47) dX5_reach_47 ok_X3_jams ov_X3_jams ln_X5_170 (c_jams g2 hn7 (htbl.ok hcv) (Or.inl ⟨rfl, htt, htb⟩) hres.1)
          · assumption
          · rfl
          · rfl
          · rfl
          · rfl
          · rfl
          refine V_goto (tgt := 60) (Y := mX5_reach) (pc := 50) dX5_reach_50 (by decide) ?_
          refine V_iret (Y := mX5_reach) (pc := 60) dX5_reach_60 rfl (Nat.le_of_ble_eq_true rfl) (Nat.le_of_ble_eq_true rfl) ?_
          first
            | (exfalso; omega)
            | (have e : fReach (n, now, ca, po, fo, rs) a = jmC (spP ca rs) n (gFnd (spP ca rs) n now) (gFnd (spP ca rs) n now).length := (if_neg (by omega)).trans ((if_neg (by omega)).trans (if_pos (by omega)))
               have e2 := jmC_congr (stp_spP htbl tt tb) (gFnd_in hn7.1 (spP_ok hcv) hnow) _ (Nat.le_refl (gFnd (spP ca rs) n now).length)
               refine pI_of ⟨?_, hX.1.tl0 (by omega), hX.2⟩
               rw [e, ← e2, hres.2.2.2])
            | (have e : fReach (n, now, ca, po, fo, rs) a = fst1 (fun s => s ∈ gFnd (spP ca rs) n now ∧ jamP (spP ca rs) n s) (p3 n.toNat).toNat 0 := (if_neg (by omega)).trans ((if_neg (by omega)).trans (if_neg (by omega)))
               refine pI_of ⟨?_, hX.1.tl0 (by omega), hX.2⟩
               rw [e]
               refine fst1_congr _ 0 (fun s h1 h2 => ?_)
               have hs : isS n s := ⟨h1, by omega⟩
               have hm := met_iff hres.1 hres.2.2.1 hs
               rw [hres.2.2.2] at hm
               refine ⟨fun q => ⟨Decidable.byContradiction (fun q2 => q.1 (hm.mpr q2)), fun d hd => ?_⟩, fun q => ⟨fun q2 => hm.mp q2 q.1, fun d hd => ?_⟩⟩
               · rw [← stp_spP htbl tt tb s d hs hd]; exact q.2 d hd
               · rw [stp_spP htbl tt tb s d hs hd]; exact q.2 d hd)
      · refine V_iload_n (Y := mX5_reach) (pc := 36) dX5_reach_36 rfl ?_
        refine V_iret (Y := mX5_reach) (pc := 37) dX5_reach_37 rfl (Nat.le_of_ble_eq_true rfl) (Nat.le_of_ble_eq_true rfl) ?_
        have e : fReach (n, now, ca, po, fo, rs) a = ((gFnd (spP ca rs) n now).length : Int) := (if_neg (by omega)).trans (if_pos h_33)
        rw [hres.2.2.2] at hz
        exact pI_of ⟨hz.trans e.symm, hX.1.tl0 (by omega), hX.2⟩
    · refine V_aload_n (Y := mX5_reach) (pc := 9) dX5_reach_9 rfl ?_
      refine V_bipush (Y := mX5_reach) (pc := 10) dX5_reach_10 ⟨by decide, by decide⟩ ?_
      apply V_vI (Y := mX5_reach) (pc := 12) dX5_reach_12 ok_X5_counted ov_X5_counted ln_X5_85 (c_told (z := -2) ho ⟨by omega, by omega⟩)
      · assumption
      · rfl
      · rfl
      · rfl
      · rfl
      · rfl
      rintro z_12 w_12 ⟨hz2, g3, f3⟩
      subst hz2
      refine V_iret (Y := mX5_reach) (pc := 15) dX5_reach_15 rfl (Nat.le_of_ble_eq_true rfl) (Nat.le_of_ble_eq_true rfl) ?_
      rw [show fReach (n, now, ca, po, fo, rs) a = -2 from if_pos (by omega)]
      exact pI_of ⟨rfl, XInv.told hr hW hK0 (fun j hj => rfl) g3 f3⟩
end CLS
