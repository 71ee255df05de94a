/-! ===== DrawerWall: kept, cut ===== -/
theorem sumW_big (v s : Int) : 0 ≤ sumW v s 7 % 3 ∧ sumW v s 7 % 3 < 3 := ⟨Int.emod_nonneg _ (by decide), Int.emod_lt_of_pos _ (by decide)⟩
section CLS
variable {nn : Nat} {w : vWd} {n now : Int} {ca po fo : Nat} {rs : Nat → List Int} {S0 S1 : vSt} {k0 k1 rb rn rf : Int} {tx : List Int}
set_option maxRecDepth 100000 in
theorem lp_same2 {v tf tt tb : Int} {st l : List Int} {F : bF} (ho : w 0 = some (xO k0 k1 rb rn rf)) (hk : WalkAt w 84 1 n (p3 n.toNat) tf tt tb st F) (hF : FOK (p3 n.toNat) F) (hn : 0 ≤ n ∧ n ≤ 7) (hv : 0 ≤ v ∧ v ≤ 2187) (hl : RowAt w 97 7 l) (hsub : ∀ x ∈ l, x ∈ F.2.2.2) : ∀ (m : Nat) (i : Int), 0 ≤ i → i ≤ F.2.2.2.length → (F.2.2.2.length - i).toNat < m → (∀ j : Int, 0 ≤ j → j < i → sumW v (rAt F.2.2.2 j) 7 % 3 = sumW v now 7 % 3) →
    V mX5_isSumKept (rm 1) (pI (fun z w' => z = cI (kpP F.2.2.2 now v) ∧ ∃ l', RowAt w' 97 7 l' ∧ (∀ x ∈ l', x ∈ F.2.2.2) ∧ fr2 97 w w') nn) 51 [some (.ref 0), some (vI v), some (vI (sumW v now 7 % 3)), some (vI i), none] [] nn w 0 0 := by
  intro m
  induction m with
  | zero => intro i h1 h2 h3; omega
  | succ m ih =>
    intro i hi hi2 hm hall
    have ok := hk.obj
    have hp := p3_le n.toNat (by omega)
    have hlen := hF.len
    have hb := sumW_big v now
    have hb2 := sumW_big v (rAt F.2.2.2 i)
    have hmem := fun (h : i < F.2.2.2.length) => rAt_mem (l := F.2.2.2) hi h
    refine V_iload_n (Y := mX5_isSumKept) (pc := 51) dX5_isSumKept_51 rfl ?_
    refine V_aload_n (Y := mX5_isSumKept) (pc := 52) dX5_isSumKept_52 rfl ?_
    apply V_get (Y := mX5_isSumKept) (pc := 53) dX5_isSumKept_53 fl_X5_51
    · assumption
    · rfl
    apply V_get (Y := mX5_isSumKept) (pc := 56) dX5_isSumKept_56 fl_X5_275
    · assumption
    · rfl
    apply V_vR (Y := mX5_isSumKept) (pc := 59) dX5_isSumKept_59 ok_X2_size ov_X2_size ln_X5_109 (c_Row_size hk.r4)
    · exact hk.r4.obj
    · rfl
    · rfl
    · rfl
    · rfl
    · rfl
    
    refine V_icmp_ge (tgt := 105) (Y := mX5_isSumKept) (pc := 62) dX5_isSumKept_62 (by decide) ⟨by omega, by omega⟩ ⟨by omega, by omega⟩ (fun h_62 => ?_) (fun h_62 => ?_)
    · try have hr := hF.2.2.2.2.2.2.1 _ (hmem (by omega))
      refine V_iconst (Y := mX5_isSumKept) (pc := 105) dX5_isSumKept_105 ?_
      refine V_zret (ty := .boolean) (Y := mX5_isSumKept) (pc := 106) dX5_isSumKept_106 rfl rfl (Nat.le_of_ble_eq_true rfl) (Nat.le_of_ble_eq_true rfl) ?_
      refine pI_of ⟨(cI_1.mpr (fun s hs => ?_)).symm, l, hl, hsub, fr2.refl _ _⟩
      obtain ⟨j, hj, hjs⟩ := List.getElem_of_mem hs
      have q := hall (j : Int) (by omega) (by omega)
      rw [rAt_in (by omega), List.getD_eq_getElem?_getD, List.getElem?_eq_getElem (by omega)] at q
      simp only [Option.getD_some, Int.toNat_natCast] at q
      rw [hjs] at q
      exact q
    · try have hr := hF.2.2.2.2.2.2.1 _ (hmem (by omega))
      refine V_aload_n (Y := mX5_isSumKept) (pc := 65) dX5_isSumKept_65 rfl ?_
      apply V_get (Y := mX5_isSumKept) (pc := 66) dX5_isSumKept_66 fl_X5_51
      · assumption
      · rfl
      apply V_get (Y := mX5_isSumKept) (pc := 69) dX5_isSumKept_69 fl_X5_275
      · assumption
      · rfl
      refine V_iload_n (Y := mX5_isSumKept) (pc := 72) dX5_isSumKept_72 rfl ?_
      apply V_vR (Y := mX5_isSumKept) (pc := 73) dX5_isSumKept_73 ok_X2_at ov_X2_at ln_X5_185 (c_Row_at (i := i) hk.r4 ⟨by omega, by omega⟩)
      · exact hk.r4.obj
      · rfl
      · rfl
      · rfl
      · rfl
      · rfl
      refine V_istore (Y := mX5_isSumKept) (pc := 76) dX5_isSumKept_76 rfl ?_
      refine V_iload_n (Y := mX5_isSumKept) (pc := 78) dX5_isSumKept_78 rfl ?_
      refine V_iload (Y := mX5_isSumKept) (pc := 79) dX5_isSumKept_79 rfl ?_
      apply V_sR (Y := mX5_isSumKept) (pc := 81) dX5_isSumKept_81 ok_X5_sumOf os_X5_sumOf ln_X5_301 (c_sumOf (x := v) (s := rAt F.2.2.2 i) hv.1 ⟨by omega, by omega⟩ hr.1 ⟨by omega, by omega⟩)
      · rfl
      · rfl
      · rfl
      refine V_iload_n (Y := mX5_isSumKept) (pc := 84) dX5_isSumKept_84 rfl ?_
      refine V_icmp_eq (tgt := 99) (Y := mX5_isSumKept) (pc := 85) dX5_isSumKept_85 (by decide) ⟨by omega, by omega⟩ ⟨by omega, by omega⟩ (fun h_85 => ?_) (fun h_85 => ?_)
      · refine V_iinc (Y := mX5_isSumKept) (pc := 99) dX5_isSumKept_99 rfl rfl ?_
        refine V_goto (tgt := 51) (Y := mX5_isSumKept) (pc := 102) dX5_isSumKept_102 (by decide) ?_
        refine V_drop 4 ?_
        refine ih (i + 1) (by omega) (by omega) (by omega) (fun j h1 h2 => ?_)
        rcases (show j < i ∨ j = i by omega) with h3 | h3
        · exact hall j h1 h3
        · rw [h3]; exact h_85
      · refine V_aload_n (Y := mX5_isSumKept) (pc := 88) dX5_isSumKept_88 rfl ?_
        apply V_get (Y := mX5_isSumKept) (pc := 89) dX5_isSumKept_89 fl_X5_65
        · assumption
        · rfl
        refine V_iload (Y := mX5_isSumKept) (pc := 92) dX5_isSumKept_92 rfl ?_
        apply V_vV (Y := mX5_isSumKept) (pc := 94) dX5_isSumKept_94 ok_X2_add ov_X2_add ln_X5_113 (c_Row_add (v := rAt F.2.2.2 i) hl)
        · exact hl.obj
        · rfl
        · rfl
        · rfl
        · rfl
        · rfl
        rintro w_94 ⟨g1, f1⟩
        refine V_iconst (Y := mX5_isSumKept) (pc := 97) dX5_isSumKept_97 ?_
        refine V_zret (ty := .boolean) (Y := mX5_isSumKept) (pc := 98) dX5_isSumKept_98 rfl rfl (Nat.le_of_ble_eq_true rfl) (Nat.le_of_ble_eq_true rfl) ?_
        refine pI_of ⟨(cI_0.mpr (fun q => h_85 (q _ (hmem (by omega))))).symm, _, g1, fun x hx => ?_, f1⟩
        unfold rAdd at hx
        split at hx
        · rcases List.mem_append.mp hx with q | q
          · exact hsub x q
          · simp at q; subst q; exact hmem (by omega)
        · exact hsub x hx
set_option maxRecDepth 100000 in
theorem lp_same1 {v tf tt tb : Int} {st l : List Int} {F : bF} (ho : w 0 = some (xO k0 k1 rb rn rf)) (hk : WalkAt w 84 1 n (p3 n.toNat) tf tt tb st F) (hF : FOK (p3 n.toNat) F) (hn : 0 ≤ n ∧ n ≤ 7) (hv : 0 ≤ v ∧ v ≤ 2187) (hl : RowAt w 97 7 l) (hsub : ∀ x ∈ l, x ∈ F.2.2.2) : ∀ (m : Nat) (i : Int), 0 ≤ i → i ≤ l.length → (l.length - i).toNat < m →
    V mX5_isSumKept (rm 1) (pI (fun z w' => z = cI (kpP F.2.2.2 now v) ∧ ∃ l', RowAt w' 97 7 l' ∧ (∀ x ∈ l', x ∈ F.2.2.2) ∧ fr2 97 w w') nn) 14 [some (.ref 0), some (vI v), some (vI (sumW v now 7 % 3)), some (vI i), none] [] nn w 0 0 := by
  intro m
  induction m with
  | zero => intro i h1 h2 h3; omega
  | succ m ih =>
    intro i hi hi2 hm
    have hp := p3_le n.toNat (by omega)
    have hlen := hl.len
    have hb := sumW_big v now
    have hb2 := sumW_big v (rAt l i)
    have hmem := fun (h : i < l.length) => hsub _ (rAt_mem (l := l) hi h)
    refine V_iload_n (Y := mX5_isSumKept) (pc := 14) dX5_isSumKept_14 rfl ?_
    refine V_aload_n (Y := mX5_isSumKept) (pc := 15) dX5_isSumKept_15 rfl ?_
    apply V_get (Y := mX5_isSumKept) (pc := 16) dX5_isSumKept_16 fl_X5_65
    · assumption
    · rfl
    apply V_vR (Y := mX5_isSumKept) (pc := 19) dX5_isSumKept_19 ok_X2_size ov_X2_size ln_X5_109 (c_Row_size hl)
    · exact hl.obj
    · rfl
    · rfl
    · rfl
    · rfl
    · rfl
    
    refine V_icmp_ge (tgt := 49) (Y := mX5_isSumKept) (pc := 22) dX5_isSumKept_22 (by decide) ⟨by omega, by omega⟩ ⟨by omega, by omega⟩ (fun h_22 => ?_) (fun h_22 => ?_)
    · try have hr := hF.2.2.2.2.2.2.1 _ (hmem (by omega))
      refine V_iconst (Y := mX5_isSumKept) (pc := 49) dX5_isSumKept_49 ?_
      refine V_istore_n (Y := mX5_isSumKept) (pc := 50) dX5_isSumKept_50 rfl ?_
      exact lp_same2 ho hk hF hn hv hl hsub (F.2.2.2.length + 1) 0 (by omega) (by omega) (by omega) (fun j h1 h2 => by omega)
    · try have hr := hF.2.2.2.2.2.2.1 _ (hmem (by omega))
      refine V_iload_n (Y := mX5_isSumKept) (pc := 25) dX5_isSumKept_25 rfl ?_
      refine V_aload_n (Y := mX5_isSumKept) (pc := 26) dX5_isSumKept_26 rfl ?_
      apply V_get (Y := mX5_isSumKept) (pc := 27) dX5_isSumKept_27 fl_X5_65
      · assumption
      · rfl
      refine V_iload_n (Y := mX5_isSumKept) (pc := 30) dX5_isSumKept_30 rfl ?_
      apply V_vR (Y := mX5_isSumKept) (pc := 31) dX5_isSumKept_31 ok_X2_at ov_X2_at ln_X5_185 (c_Row_at (i := i) hl ⟨by omega, by omega⟩)
      · exact hl.obj
      · rfl
      · rfl
      · rfl
      · rfl
      · rfl
      apply V_sR (Y := mX5_isSumKept) (pc := 34) dX5_isSumKept_34 ok_X5_sumOf os_X5_sumOf ln_X5_301 (c_sumOf (x := v) (s := rAt l i) hv.1 ⟨by omega, by omega⟩ hr.1 ⟨by omega, by omega⟩)
      · rfl
      · rfl
      · rfl
      refine V_iload_n (Y := mX5_isSumKept) (pc := 37) dX5_isSumKept_37 rfl ?_
      refine V_icmp_eq (tgt := 43) (Y := mX5_isSumKept) (pc := 38) dX5_isSumKept_38 (by decide) ⟨by omega, by omega⟩ ⟨by omega, by omega⟩ (fun h_38 => ?_) (fun h_38 => ?_)
      · refine V_iinc (Y := mX5_isSumKept) (pc := 43) dX5_isSumKept_43 rfl rfl ?_
        refine V_goto (tgt := 14) (Y := mX5_isSumKept) (pc := 46) dX5_isSumKept_46 (by decide) ?_
        exact ih (i + 1) (by omega) (by omega) (by omega)
      · refine V_iconst (Y := mX5_isSumKept) (pc := 41) dX5_isSumKept_41 ?_
        refine V_zret (ty := .boolean) (Y := mX5_isSumKept) (pc := 42) dX5_isSumKept_42 rfl rfl (Nat.le_of_ble_eq_true rfl) (Nat.le_of_ble_eq_true rfl) ?_
        exact pI_of ⟨(cI_0.mpr (fun q => h_38 (q _ (hmem (by omega))))).symm, l, hl, hsub, fr2.refl _ _⟩
set_option maxRecDepth 100000 in
theorem c_isSame {v tf tt tb : Int} {st l : List Int} {F : bF} (ho : w 0 = some (xO k0 k1 rb rn rf)) (hW : WallAt w 1 (n, now, ca, po, fo, rs)) (hk : WalkAt w 84 1 n (p3 n.toNat) tf tt tb st F) (hF : FOK (p3 n.toNat) F) (hn : 0 ≤ n ∧ n ≤ 7) (hnow : isS n now) (hv : 0 ≤ v ∧ v ≤ 2187) (hl : RowAt w 97 7 l) (hsub : ∀ x ∈ l, x ∈ F.2.2.2) : Ctr mX5_isSumKept (rm 1) [.ref 0, vI v] nn w (pI (fun z w' => z = cI (kpP F.2.2.2 now v) ∧ ∃ l', RowAt w' 97 7 l' ∧ (∀ x ∈ l', x ∈ F.2.2.2) ∧ fr2 97 w w') nn) := by
  refine Ctr_of (lv := [some (.ref 0), some (vI v), none, none, none]) (by decide +kernel) rfl rfl ?_
  have oW := hW.obj
  have hp := p3_le n.toNat (by omega)
  refine V_iload_n (Y := mX5_isSumKept) (pc := 0) dX5_isSumKept_0 rfl ?_
  refine V_aload_n (Y := mX5_isSumKept) (pc := 1) dX5_isSumKept_1 rfl ?_
  apply V_get (Y := mX5_isSumKept) (pc := 2) dX5_isSumKept_2 fl_X5_10
  · assumption
  · rfl
  apply V_get (Y := mX5_isSumKept) (pc := 5) dX5_isSumKept_5 fl_X5_141
  · assumption
  · rfl
  apply V_sR (Y := mX5_isSumKept) (pc := 8) dX5_isSumKept_8 ok_X5_sumOf os_X5_sumOf ln_X5_301 (c_sumOf (x := v) (s := now) hv.1 ⟨by omega, by omega⟩ hnow.1 ⟨by omega, by omega⟩)
  · rfl
  · rfl
  · rfl
  refine V_istore_n (Y := mX5_isSumKept) (pc := 11) dX5_isSumKept_11 rfl ?_
  refine V_iconst (Y := mX5_isSumKept) (pc := 12) dX5_isSumKept_12 ?_
  refine V_istore_n (Y := mX5_isSumKept) (pc := 13) dX5_isSumKept_13 rfl ?_
  exact lp_same1 ho hk hF hn hv hl hsub (l.length + 1) 0 (by omega) (by omega) (by omega)
set_option maxRecDepth 100000 in
theorem lp_kept {w0 : vWd} {L : List Int} {r tf tt tb : Int} {st : List Int} {F : bF} (hn : 2 ≤ n ∧ n ≤ 7) (hnow : isS n now) (ho : w0 0 = some (xO k0 k1 rb rn rf)) (hW : WallAt w0 1 (n, now, ca, po, fo, rs)) (hk : WalkAt w0 84 1 n (p3 n.toNat) tf tt tb st F) (hF : FOK (p3 n.toNat) F) {Q : vPost} (hQ : ∀ w' l, RowAt w' 97 7 l → fr2 97 w0 w' → Q (some (vI r)) nn w') : ∀ (m : Nat) (i : Int) (w' : vWd) (l : List Int), 1 ≤ i → i ≤ p3 n.toNat → (p3 n.toNat - i).toNat = m → fr2 97 w0 w' → RowAt w' 97 7 l → (∀ x ∈ l, x ∈ F.2.2.2) → fst1 (kpP F.2.2.2 now) m i = r →
    V mX5_kept (rm 6) Q 25 [some (.ref 0), some (vI i)] [] nn w' 0 0 := by
  intro m
  induction m with
  | zero =>
    intro i w' l h1 h2 h3 hfr hl hsub hr
    have ho' := (hfr 0 (by omega) (by omega)).trans ho
    have hW' := hW.keep (w' := w') (fun j a b => hfr j (by omega) (by omega))
    have oW := hW'.obj
    have hp := p3_le n.toNat (by omega)
    refine V_iload_n (Y := mX5_kept) (pc := 25) dX5_kept_25 rfl ?_
    refine V_aload_n (Y := mX5_kept) (pc := 26) dX5_kept_26 rfl ?_
    apply V_get (Y := mX5_kept) (pc := 27) dX5_kept_27 fl_X5_10
    · assumption
    · rfl
    apply V_vR (Y := mX5_kept) (pc := 30) dX5_kept_30 ok_X4_states ov_X4_states ln_X5_176 (c_states hW' ⟨by omega, by omega⟩)
    · assumption
    · rfl
    · rfl
    · rfl
    · rfl
    · rfl
    refine V_icmp_ge (tgt := 52) (Y := mX5_kept) (pc := 33) dX5_kept_33 (by decide) ⟨by omega, by omega⟩ ⟨by omega, by omega⟩ (fun h_33 => ?_) (fun h_33 => absurd h_33 (by omega))
    refine V_iconst (Y := mX5_kept) (pc := 52) dX5_kept_52 ?_
    refine V_iret (Y := mX5_kept) (pc := 53) dX5_kept_53 rfl (Nat.le_of_ble_eq_true rfl) (Nat.le_of_ble_eq_true rfl) ?_
    have hr : (-1 : Int) = r := hr
    rw [hr]
    exact hQ w' l hl hfr
  | succ m ih =>
    intro i w' l h1 h2 h3 hfr hl hsub hr
    have ho' := (hfr 0 (by omega) (by omega)).trans ho
    have hW' := hW.keep (w' := w') (fun j a b => hfr j (by omega) (by omega))
    have hk' := hk.keep (w' := w') (fun j a b => hfr j (by omega) (by omega))
    have oW := hW'.obj
    have hp := p3_le n.toNat (by omega)
    refine V_iload_n (Y := mX5_kept) (pc := 25) dX5_kept_25 rfl ?_
    refine V_aload_n (Y := mX5_kept) (pc := 26) dX5_kept_26 rfl ?_
    apply V_get (Y := mX5_kept) (pc := 27) dX5_kept_27 fl_X5_10
    · assumption
    · rfl
    apply V_vR (Y := mX5_kept) (pc := 30) dX5_kept_30 ok_X4_states ov_X4_states ln_X5_176 (c_states hW' ⟨by omega, by omega⟩)
    · assumption
    · rfl
    · rfl
    · rfl
    · rfl
    · rfl
    refine V_icmp_ge (tgt := 52) (Y := mX5_kept) (pc := 33) dX5_kept_33 (by decide) ⟨by omega, by omega⟩ ⟨by omega, by omega⟩ (fun h_33 => absurd h_33 (by omega)) (fun h_33 => ?_)
    refine V_aload_n (Y := mX5_kept) (pc := 36) dX5_kept_36 rfl ?_
    refine V_iload_n (Y := mX5_kept) (pc := 37) dX5_kept_37 rfl ?_
    apply V_vI (Y := mX5_kept) (pc := 38) dX5_kept_38 ok_X5_isSumKept ov_X5_isSumKept ln_X5_179 (c_isSame (v := i) ho' hW' hk' hF ⟨by omega, by omega⟩ hnow ⟨by omega, by omega⟩ hl hsub)
    · assumption
    · rfl
    · rfl
    · rfl
    · rfl
    · rfl
    rintro z_38 w_38 ⟨hz, l2, hl2, hsub2, f2⟩
    subst hz
    refine V_if_eq (tgt := 46) (Y := mX5_kept) (pc := 41) dX5_kept_41 (by decide) (cI_R _) (fun h_41 => ?_) (fun h_41 => ?_)
    · refine V_iinc (Y := mX5_kept) (pc := 46) dX5_kept_46 rfl rfl ?_
      refine V_goto (tgt := 25) (Y := mX5_kept) (pc := 49) dX5_kept_49 (by decide) ?_
      have hx : ¬ kpP F.2.2.2 now i := cI_0.mp h_41
      rw [fst1_f hx] at hr
      exact ih (i + 1) w_38 l2 (by omega) (by omega) (by omega) (hfr.trans f2) hl2 hsub2 hr
    · refine V_iload_n (Y := mX5_kept) (pc := 44) dX5_kept_44 rfl ?_
      refine V_iret (Y := mX5_kept) (pc := 45) dX5_kept_45 rfl (Nat.le_of_ble_eq_true rfl) (Nat.le_of_ble_eq_true rfl) ?_
      have hx : kpP F.2.2.2 now i := Classical.byContradiction (fun q => h_41 (cI_0.mpr q))
      rw [fst1_t hx] at hr
      rw [hr]
      exact hQ w_38 l2 hl2 (hfr.trans f2)
set_option maxRecDepth 100000 in
theorem cx_kept (h : XInv w (n, now, ca, po, fo, rs) S0 S1 k0 k1 tx rb rn rf) (hG : vGood (n, now, ca, po, fo, rs)) : Ctr mX5_kept (rm 6) [.ref 0] nn w (pI (fun z w' => z = fKept (n, now, ca, po, fo, rs) ∧ XInv w' (n, now, ca, po, fo, rs) S0 S1 k0 k1 tx (tl1 (-2) z rb) (tl1 (-3) z rn) (tl1 (-4) z rf) ∧ frX w w') nn) := by
  refine Ctr_of (lv := [some (.ref 0), none]) (by decide +kernel) rfl rfl ?_
  obtain ⟨ho, hW, hK, hr⟩ := h
  obtain ⟨hn, hnow, hca, hpo, hfo, hgd, hcv, hor, hsg, hpast⟩ := hG.un
  obtain ⟨lr, dn, sn, tt, tb, st, F, hk, hlr, hlen, hsh, haok, htt, htb⟩ := hK
  have oW := hW.obj
  have ok := hk.obj
  have hn7 : 0 ≤ n ∧ n ≤ 7 := ⟨by omega, by omega⟩
  have hp := p3_le n.toNat (by omega)
  have hp0 := p3_pos n.toNat
  refine V_aload_n (Y := mX5_kept) (pc := 0) dX5_kept_0 rfl ?_
  apply V_get (Y := mX5_kept) (pc := 1) dX5_kept_1 fl_X5_51
  · assumption
  · rfl
  refine V_aload_n (Y := mX5_kept) (pc := 4) dX5_kept_4 rfl ?_
  apply V_get (Y := mX5_kept) (pc := 5) dX5_kept_5 fl_X5_10
  · assumption
  · rfl
  apply V_vV (Y := mX5_kept) (pc := 8) dX5_kept_8 ok_X3_learn ov_X3_learn ln_X5_160 (c_learn hk hW hn7 hcv hca (by omega) hlr hlen)
  · assumption
  · rfl
  · rfl
  · rfl
  · rfl
  · rfl
  rintro w_8 ⟨st2, g1, hlen2, htbl, f1⟩
  have hres := rch_res hn7 hcv hnow htbl htt htb hsh haok
  have x1 := (f1 0 (by omega)).trans ho
  have W1 := hW.keep (fun j a b => f1 j (by omega))
  refine V_aload_n (Y := mX5_kept) (pc := 11) dX5_kept_11 rfl ?_
  apply V_vI (Y := mX5_kept) (pc := 12) dX5_kept_12 ok_X5_walkFromNow ov_X5_walkFromNow ln_X5_167 (c_reached x1 W1 g1 hn7 hnow (htbl.ok hcv) (Or.inl ⟨rfl, htt, htb⟩) hsh)
  · assumption
  · rfl
  · rfl
  · rfl
  · rfl
  · rfl
  rintro z_12 w_12 ⟨hz, g2, f2⟩
  have x2 := (f2 0 (by omega)).trans x1
  have W2 := W1.keep (fun j a b => f2 j (by omega))
  have hK2 : WkInv w_12 n ca rs := ⟨1, n, _, tt, tb, st2, _, g2, Or.inr ⟨rfl, rfl, rfl, htbl⟩, hlen2, hres.1.sh, hres.2.1, htt, htb⟩
  have hX := XInv.walk ho hW hr (fun j hj => (f2 j hj).trans (f1 j hj)) hK2
  obtain ⟨q1, q2, q3, q4, q5, q6, q7, ⟨l8, h8⟩⟩ := hX.1.2.2.2
  refine V_pop (Y := mX5_kept) (pc := 15) dX5_kept_15 rfl ?_
  refine V_aload_n (Y := mX5_kept) (pc := 16) dX5_kept_16 rfl ?_
  apply V_get (Y := mX5_kept) (pc := 17) dX5_kept_17 fl_X5_65
  · assumption
  · rfl
  apply V_vV (Y := mX5_kept) (pc := 20) dX5_kept_20 ok_X2_drop ov_X2_drop ln_X5_116 (c_Row_drop h8)
  · exact h8.obj
  · rfl
  · rfl
  · rfl
  · rfl
  · rfl
  rintro w_20 ⟨g3, f3⟩
  refine V_iconst (Y := mX5_kept) (pc := 23) dX5_kept_23 ?_
  refine V_istore_n (Y := mX5_kept) (pc := 24) dX5_kept_24 rfl ?_
  refine lp_kept (L := gFnd (spP ca rs) n now) (r := fKept (n, now, ca, po, fo, rs)) hn hnow ((f3 0 (by omega) (by omega)).trans x2) (W2.keep (fun j a b => f3 j (by omega) (by omega))) (g2.keep (fun j a b => f3 j (by omega) (by omega))) hres.1 ?_ (p3 n.toNat - 1).toNat 1 w_20 [] (by omega) (by omega) rfl (fr2.refl _ _) g3 (fun x hx => by simp at hx) (by rw [hres.2.2.2]; rfl)
  intro w' l hl hf
  have hf2 : fr2 97 w_12 w' := fun j a b => (hf j a b).trans (f3 j a b)
  have hrg := fst1_rng (P := kpP (gFnd (spP ca rs) n now) now) (p3 n.toNat - 1).toNat 1
  have hrg : -1 ≤ fKept (n, now, ca, po, fo, rs) := by show -1 ≤ fst1 (kpP (gFnd (spP ca rs) n now) now) (p3 n.toNat - 1).toNat 1; omega
  obtain ⟨D, q1, qD⟩ := q1
  obtain ⟨a6, b6, q6⟩ := q6
  obtain ⟨a7, b7, q7⟩ := q7
  refine pI_of ⟨rfl, XInv.tl0 ⟨(hf2 0 (by omega) (by omega)).trans x2, W2.keep (fun j a b => hf2 j (by omega) (by omega)), hK2.keep (fun j a b => hf2 j (by omega) (by omega)), ⟨D, q1.keep (fun j a b => hf2 j (by omega) (by omega)), qD⟩, q2.keep (fun j a b => hf2 j (by omega) (by omega)), q3.keep (fun j a b => hf2 j (by omega) (by omega)), q4.keep (hf2 _ (by omega) (by omega)) (hf2 _ (by omega) (by omega)), q5.keep (fun j a b => hf2 j (by omega) (by omega)), ⟨a6, b6, (hf2 _ (by omega) (by omega)).trans q6⟩, ⟨a7, b7, (hf2 _ (by omega) (by omega)).trans q7⟩, ⟨l, hl⟩⟩ hrg, fun j hj => (hf2 j (by omega) (by omega)).trans (hX.2 j hj)⟩
end CLS
