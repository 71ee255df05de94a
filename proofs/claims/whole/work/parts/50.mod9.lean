/-! ===== DrawerWallModel: images, the text; the calls over the whole picture ===== -/
section MOD
variable {nn : Nat} {w : vWd} {n now : Int} {ca po fo : Nat} {rs : Nat → List Int} {qt : Int} {rb rn rf k0 k1 : Int} {S0 S1 : vSt} {tx : List Int}
set_option maxRecDepth 100000 in
theorem cm_fits {a : Int} (hK : MK w 0 (n, now, ca, po, fo, rs) rb rn rf) (hG : vGood (n, now, ca, po, fo, rs)) (ha : inR a) : Ctr mX6_fits (rm 5) [.ref 99, vI a] nn w (pI (fun z w' => z = fFits (n, now, ca, po, fo, rs) a ∧ MK w' 0 (n, now, ca, po, fo, rs) (tq 0 (-2) z rb) (tq 0 (-3) z rn) (tq 0 (-4) z rf) ∧ frB w w') nn) := by
  refine Ctr_of (lv := [some (.ref 99), some (vI a), none, none, none, none, none, none, none]) (by decide +kernel) rfl rfl ?_
  have hK0 := hK
  have hn := hG.un.1
  obtain ⟨⟨ty, a0, sp, tk, vl, mn, fd, sv, ho⟩, ⟨f, hb0, hB⟩, hr, hq⟩ := hK
  have hl : (rs 1).length ≤ 10 := hB.2.1.1
  refine V_iload_n (Y := mX6_fits) (pc := 0) dX6_fits_0 rfl ?_
  refine V_i2l (Y := mX6_fits) (pc := 1) dX6_fits_1 ha ?_
  refine V_lconst (Y := mX6_fits) (pc := 2) dX6_fits_2 ?_
  refine V_lconst (Y := mX6_fits) (pc := 3) dX6_fits_3 ?_
  apply V_sR (Y := mX6_fits) (pc := 4) dX6_fits_4 ok_X6_in os_X6_in ln_X6_56 (cm_in (a := a) (b := 0) (c := 1) ha ⟨by omega, by omega⟩ ⟨by omega, by omega⟩)
  · rfl
  · rfl
  · rfl
  refine V_if_neB (tgt := 15) (Y := mX6_fits) (pc := 7) dX6_fits_7 (by decide) (fun h_7 => ?_) (fun h_7 => ?_)
  · refine V_iconst (Y := mX6_fits) (pc := 15) dX6_fits_15 ?_
    refine V_istore_n (Y := mX6_fits) (pc := 16) dX6_fits_16 rfl ?_
    refine V_iconst (Y := mX6_fits) (pc := 17) dX6_fits_17 ?_
    refine V_istore_n (Y := mX6_fits) (pc := 18) dX6_fits_18 rfl ?_
    refine V_iconst (Y := mX6_fits) (pc := 19) dX6_fits_19 ?_
    refine V_istore (Y := mX6_fits) (pc := 20) dX6_fits_20 rfl ?_
    exact lpm_fit1 hK0 hG h_7 _ rfl (p2 (rs 1).length) rfl (p2_10 _ hl) (p2 (rs 1).length) 0 (by omega) (by omega)
  · refine V_aload_n (Y := mX6_fits) (pc := 10) dX6_fits_10 rfl ?_
    apply V_vI (Y := mX6_fits) (pc := 11) dX6_fits_11 ok_X6_bad ov_X6_bad ln_X6_79 (cm_bad ho hr hq)
    · assumption
    · rfl
    · rfl
    · rfl
    · rfl
    · rfl
    rintro z_9 w_9 ⟨hz2, g1, f1⟩
    subst hz2
    refine V_iret (Y := mX6_fits) (pc := 14) dX6_fits_14 rfl (Nat.le_of_ble_eq_true rfl) (Nat.le_of_ble_eq_true rfl) ?_
    rw [show fFits (n, now, ca, po, fo, rs) a = -2 from if_pos h_7]
    exact pI_of ⟨rfl, ⟨⟨_, _, _, _, _, _, _, _, (f1 _ (by omega)).trans ho⟩, ⟨f, (f1 _ (by omega)).trans hb0, hB⟩, g1, hq⟩, fun j a b => f1 j b⟩
set_option maxRecDepth 100000 in
theorem lpm_image {i : Int} {f g h : Nat → Int} (hi : i = 0 ∨ i = 1) (ho : ∃ qt ty a0 sp tk vl mn fd sv : Int, w 99 = some (mO qt ty a0 sp tk vl mn fd sv)) (hb : w 100 = some (arI 98 f)) (hz : w 102 = some (arZ 2 h)) {Q : vPost} (hQ : ∀ w' g', w' 101 = some (arI 196 g') → w' 102 = some (arZ 2 (va_up h i.toNat 1)) → (∀ j, j ≠ 101 → j ≠ 102 → w' j = w j) → (∀ j : Nat, j < 98 → g' (98 * i.toNat + j) = f j) → (∀ j : Nat, ((j : Int) < 98 * i ∨ 98 * i + 98 ≤ (j : Int)) → g' j = g j) → Q (some (vI 1)) nn w') : ∀ (m : Nat) (k : Int) (w' : vWd) (g' : Nat → Int), 0 ≤ k → k + m = 98 → w' 101 = some (arI 196 g') → (∀ j, j ≠ 101 → w' j = w j) → (∀ j : Nat, (j : Int) < k → g' (98 * i.toNat + j) = f j) → (∀ j : Nat, ((j : Int) < 98 * i ∨ 98 * i + 98 ≤ (j : Int)) → g' j = g j) →
    V mX6_image (rm 2) Q 17 [some (.ref 99), some (vI i), some (vI k)] [] nn w' 0 0 := by
  obtain ⟨qt, ty, a0, sp, tk, vl, mn, fd, sv, ho⟩ := ho
  intro m
  induction m with
  | zero =>
    intro k w' g' hk hkm hg hf h1 h2
    have ho' := (hf 99 (by omega)).trans ho
    have hz' := (hf 102 (by omega)).trans hz
    refine V_iload_n (Y := mX6_image) (pc := 17) dX6_image_17 rfl ?_
    refine V_bipush (Y := mX6_image) (pc := 18) dX6_image_18 ⟨by decide, by decide⟩ ?_
    refine V_icmp_ge (tgt := 46) (Y := mX6_image) (pc := 20) dX6_image_20 (by decide) ⟨by omega, by omega⟩ ⟨by omega, by omega⟩ (fun h_20 => ?_) (fun h_20 => absurd h_20 (by omega))
    refine V_aload_n (Y := mX6_image) (pc := 46) dX6_image_46 rfl ?_
    apply V_get (Y := mX6_image) (pc := 47) dX6_image_47 fl_X6_16
    · assumption
    · rfl
    refine V_iload_n (Y := mX6_image) (pc := 50) dX6_image_50 rfl ?_
    refine V_iconst (Y := mX6_image) (pc := 51) dX6_image_51 ?_
    apply V_zastW (Y := mX6_image) (pc := 52) dX6_image_52
    · assumption
    · exact ⟨by omega, by omega⟩
    · omega
    · exact (by first | exact Or.inl rfl | exact Or.inr rfl)
    intro w_52 h_52 f_52
    refine V_iconst (Y := mX6_image) (pc := 53) dX6_image_53 ?_
    refine V_iret (Y := mX6_image) (pc := 54) dX6_image_54 rfl (Nat.le_of_ble_eq_true rfl) (Nat.le_of_ble_eq_true rfl) ?_
    exact hQ w_52 g' ((f_52 _ (by omega)).trans hg) h_52 (fun j a b => (f_52 j b).trans (hf j a)) (fun j hj => h1 j (by omega)) h2
  | succ m ih =>
    intro k w' g' hk hkm hg hf h1 h2
    have ho' := (hf 99 (by omega)).trans ho
    have hb' := (hf 100 (by omega)).trans hb
    refine V_iload_n (Y := mX6_image) (pc := 17) dX6_image_17 rfl ?_
    refine V_bipush (Y := mX6_image) (pc := 18) dX6_image_18 ⟨by decide, by decide⟩ ?_
    refine V_icmp_ge (tgt := 46) (Y := mX6_image) (pc := 20) dX6_image_20 (by decide) ⟨by omega, by omega⟩ ⟨by omega, by omega⟩ (fun h_20 => absurd h_20 (by omega)) (fun h_20 => ?_)
    refine V_aload_n (Y := mX6_image) (pc := 23) dX6_image_23 rfl ?_
    apply V_get (Y := mX6_image) (pc := 24) dX6_image_24 fl_X6_13
    · assumption
    · rfl
    refine V_bipush (Y := mX6_image) (pc := 27) dX6_image_27 ⟨by decide, by decide⟩ ?_
    refine V_iload_n (Y := mX6_image) (pc := 29) dX6_image_29 rfl ?_
    refine V_imul (Y := mX6_image) (pc := 30) dX6_image_30 ?_
    refine V_iload_n (Y := mX6_image) (pc := 31) dX6_image_31 rfl ?_
    refine V_iadd (Y := mX6_image) (pc := 32) dX6_image_32 ?_
    refine V_aload_n (Y := mX6_image) (pc := 33) dX6_image_33 rfl ?_
    apply V_get (Y := mX6_image) (pc := 34) dX6_image_34 fl_X6_7
    · assumption
    · rfl
    refine V_iload_n (Y := mX6_image) (pc := 37) dX6_image_37 rfl ?_
    apply V_iald (Y := mX6_image) (pc := 38) dX6_image_38
    · assumption
    · exact ⟨by omega, by omega⟩
    · omega
    apply V_iastW (Y := mX6_image) (pc := 39) dX6_image_39
    · assumption
    · exact ⟨by omega, by omega⟩
    · omega
    intro w_39 h_39 f_39
    refine V_iinc (Y := mX6_image) (pc := 40) dX6_image_40 rfl rfl ?_
    refine V_goto (tgt := 17) (Y := mX6_image) (pc := 43) dX6_image_43 (by decide) ?_
    refine ih (k + 1) w_39 _ (by omega) (by omega) h_39 (fun j hj => (f_39 j hj).trans (hf j hj)) (fun j hj => ?_) (fun j hj => ?_)
    · by_cases hjk : (j : Int) = k
      · rw [show 98 * i.toNat + j = (98 * i + k).toNat by omega, va_up_self]; congr 1; omega
      · rw [va_up_ne _ _ (by omega)]; exact h1 j (by omega)
    · rw [va_up_ne _ _ (by omega)]; exact h2 j hj
set_option maxRecDepth 100000 in
theorem mx_image {i : Int} (h : MInv w (n, now, ca, po, fo, rs) S0 S1 k0 k1 tx rb rn rf) (hi : inR i) : Ctr mX6_image (rm 2) [.ref 99, vI i] nn w (pI (fun z w' => z = (fImage (n, now, ca, po, fo, rs) S0 S1 k0 k1 i).1 ∧ MInv w' (n, now, ca, po, fo, rs) (fImage (n, now, ca, po, fo, rs) S0 S1 k0 k1 i).2.1 (fImage (n, now, ca, po, fo, rs) S0 S1 k0 k1 i).2.2.1 (fImage (n, now, ca, po, fo, rs) S0 S1 k0 k1 i).2.2.2.1 (fImage (n, now, ca, po, fo, rs) S0 S1 k0 k1 i).2.2.2.2 tx (tl1 (-2) z rb) (tl1 (-3) z rn) (tl1 (-4) z rf) ∧ frM w w') nn) := by
  refine Ctr_of (lv := [some (.ref 99), some (vI i), none]) (by decide +kernel) rfl rfl ?_
  have h0 := h
  obtain ⟨⟨⟨ty, a0, sp, tk, vl, mn, fd, sv, ho⟩, ⟨f, hb0, hB⟩, hr, hq⟩, hO, hT, ⟨g, q, hg, hz, z0, z1, c0, c1, i0, i1⟩, hS⟩ := h
  refine V_iload_n (Y := mX6_image) (pc := 0) dX6_image_0 rfl ?_
  refine V_i2l (Y := mX6_image) (pc := 1) dX6_image_1 hi ?_
  refine V_lconst (Y := mX6_image) (pc := 2) dX6_image_2 ?_
  refine V_lconst (Y := mX6_image) (pc := 3) dX6_image_3 ?_
  apply V_sR (Y := mX6_image) (pc := 4) dX6_image_4 ok_X6_in os_X6_in ln_X6_56 (cm_in (a := i) (b := 0) (c := 1) hi ⟨by omega, by omega⟩ ⟨by omega, by omega⟩)
  · rfl
  · rfl
  · rfl
  refine V_if_neB (tgt := 15) (Y := mX6_image) (pc := 7) dX6_image_7 (by decide) (fun h_7 => ?_) (fun h_7 => ?_)
  · refine V_iconst (Y := mX6_image) (pc := 15) dX6_image_15 ?_
    refine V_istore_n (Y := mX6_image) (pc := 16) dX6_image_16 rfl ?_
    refine lpm_image (f := f) (g := g) (h := q) (by omega) ⟨_, _, _, _, _, _, _, _, _, ho⟩ hb0 hz (fun w' g' q1 q2 q3 q4 q5 => ?_) 98 0 w g (by omega) (by omega) hg (fun _ _ => rfl) (fun j hj => by omega) (fun _ _ => rfl)
    have hK' : MK w' 0 (n, now, ca, po, fo, rs) rb rn rf := ⟨⟨_, _, _, _, _, _, _, _, (q3 99 (by omega) (by omega)).trans ho⟩, ⟨f, (q3 100 (by omega) (by omega)).trans hb0, hB⟩, hr.keep (q3 _ (by omega) (by omega)), hq⟩
    have hK' := hK'.tq0 (z := 1) (by omega)
    rw [tq_0, tq_0, tq_0] at hK'
    have hO' := hO.keep (q3 99 (by omega) (by omega))
    have hT' := hT.keep (q3 105 (by omega) (by omega))
    have hS' := hS.keep (w' := w') (fun j hj => q3 j (by omega) (by omega))
    rcases (show i = 0 ∨ i = 1 by omega) with rfl | rfl
    · rw [show fImage (n, now, ca, po, fo, rs) S0 S1 k0 k1 0 = (1, (n, now, ca, po, fo, rs), S1, 1, k1) from (if_neg (by omega)).trans (if_pos rfl)]
      refine pI_of ⟨rfl, ⟨hK', hO', hT', ⟨g', _, q1, q2, rfl, ?_, Or.inr rfl, c1, fun _ => BkS.ext (f := f) hB (fun j hj => ?_), fun e => BkS.ext (i1 e) (fun j hj => ?_)⟩, hS'⟩, fun j hj => q3 j (by omega) (by omega)⟩
      · exact (va_up_ne _ _ (by omega)).trans z1
      · have := q4 j hj; rw [show 98 * (0 : Int).toNat + j = j by omega] at this; exact this
      · exact q5 (98 + j) (by omega)
    · rw [show fImage (n, now, ca, po, fo, rs) S0 S1 k0 k1 1 = (1, S0, (n, now, ca, po, fo, rs), k0, 1) from (if_neg (by omega)).trans (if_neg (by omega))]
      refine pI_of ⟨rfl, ⟨hK', hO', hT', ⟨g', _, q1, q2, ?_, rfl, c0, Or.inr rfl, fun e => BkS.ext (i0 e) (fun j hj => ?_), fun _ => BkS.ext (f := f) hB (fun j hj => ?_)⟩, hS'⟩, fun j hj => q3 j (by omega) (by omega)⟩
      · exact (va_up_ne _ _ (by omega)).trans z0
      · exact q5 j (by omega)
      · have := q4 j hj; rw [show 98 * (1 : Int).toNat + j = 98 + j by omega] at this; exact this
  · refine V_aload_n (Y := mX6_image) (pc := 10) dX6_image_10 rfl ?_
    apply V_vI (Y := mX6_image) (pc := 11) dX6_image_11 ok_X6_bad ov_X6_bad ln_X6_79 (cm_bad ho hr hq)
    · assumption
    · rfl
    · rfl
    · rfl
    · rfl
    · rfl
    rintro z_9 w_9 ⟨hz2, g1, f1⟩
    subst hz2
    refine V_iret (Y := mX6_image) (pc := 14) dX6_image_14 rfl (Nat.le_of_ble_eq_true rfl) (Nat.le_of_ble_eq_true rfl) ?_
    rw [show fImage (n, now, ca, po, fo, rs) S0 S1 k0 k1 i = (-2, S0, S1, k0, k1) from if_pos h_7]
    have hK' : MK w_9 0 (n, now, ca, po, fo, rs) (tq 0 (-2) (-2) rb) (tq 0 (-3) (-2) rn) (tq 0 (-4) (-2) rf) := ⟨⟨_, _, _, _, _, _, _, _, (f1 _ (by omega)).trans ho⟩, ⟨f, (f1 _ (by omega)).trans hb0, hB⟩, g1, hq⟩
    rw [tq_0, tq_0, tq_0] at hK'
    have qq := h0.frB hK' (fun j a b => f1 j b)
    exact pI_of ⟨rfl, qq.1, qq.2⟩
set_option maxRecDepth 100000 in
theorem lpm_from {i : Int} {g : Nat → Int} (hi : i = 0 ∨ i = 1) (ho : ∃ qt ty a0 sp tk vl mn fd sv : Int, w 99 = some (mO qt ty a0 sp tk vl mn fd sv)) (hg : w 101 = some (arI 196 g)) {Q : vPost} (hQ : ∀ w' f', w' 100 = some (arI 98 f') → (∀ j, j ≠ 100 → w' j = w j) → (∀ j : Nat, j < 98 → f' j = g (98 * i.toNat + j)) → Q (some (vI 1)) nn w') : ∀ (m : Nat) (k : Int) (w' : vWd) (f' : Nat → Int), 0 ≤ k → k + m = 98 → w' 100 = some (arI 98 f') → (∀ j, j ≠ 100 → w' j = w j) → (∀ j : Nat, (j : Int) < k → f' j = g (98 * i.toNat + j)) →
    V mX6_from (rm 2) Q 31 [some (.ref 99), some (vI i), some (vI k)] [] nn w' 0 0 := by
  obtain ⟨qt, ty, a0, sp, tk, vl, mn, fd, sv, ho⟩ := ho
  intro m
  induction m with
  | zero =>
    intro k w' f' hk hkm hb hf h1
    refine V_iload_n (Y := mX6_from) (pc := 31) dX6_from_31 rfl ?_
    refine V_bipush (Y := mX6_from) (pc := 32) dX6_from_32 ⟨by decide, by decide⟩ ?_
    refine V_icmp_ge (tgt := 60) (Y := mX6_from) (pc := 34) dX6_from_34 (by decide) ⟨by omega, by omega⟩ ⟨by omega, by omega⟩ (fun h_34 => ?_) (fun h_34 => absurd h_34 (by omega))
    refine V_iconst (Y := mX6_from) (pc := 60) dX6_from_60 ?_
    refine V_iret (Y := mX6_from) (pc := 61) dX6_from_61 rfl (Nat.le_of_ble_eq_true rfl) (Nat.le_of_ble_eq_true rfl) ?_
    exact hQ w' f' hb hf (fun j hj => h1 j (by omega))
  | succ m ih =>
    intro k w' f' hk hkm hb hf h1
    have ho' := (hf 99 (by omega)).trans ho
    have hg' := (hf 101 (by omega)).trans hg
    refine V_iload_n (Y := mX6_from) (pc := 31) dX6_from_31 rfl ?_
    refine V_bipush (Y := mX6_from) (pc := 32) dX6_from_32 ⟨by decide, by decide⟩ ?_
    refine V_icmp_ge (tgt := 60) (Y := mX6_from) (pc := 34) dX6_from_34 (by decide) ⟨by omega, by omega⟩ ⟨by omega, by omega⟩ (fun h_34 => absurd h_34 (by omega)) (fun h_34 => ?_)
    refine V_aload_n (Y := mX6_from) (pc := 37) dX6_from_37 rfl ?_
    apply V_get (Y := mX6_from) (pc := 38) dX6_from_38 fl_X6_7
    · assumption
    · rfl
    refine V_iload_n (Y := mX6_from) (pc := 41) dX6_from_41 rfl ?_
    refine V_aload_n (Y := mX6_from) (pc := 42) dX6_from_42 rfl ?_
    apply V_get (Y := mX6_from) (pc := 43) dX6_from_43 fl_X6_13
    · assumption
    · rfl
    refine V_bipush (Y := mX6_from) (pc := 46) dX6_from_46 ⟨by decide, by decide⟩ ?_
    refine V_iload_n (Y := mX6_from) (pc := 48) dX6_from_48 rfl ?_
    refine V_imul (Y := mX6_from) (pc := 49) dX6_from_49 ?_
    refine V_iload_n (Y := mX6_from) (pc := 50) dX6_from_50 rfl ?_
    refine V_iadd (Y := mX6_from) (pc := 51) dX6_from_51 ?_
    apply V_iald (Y := mX6_from) (pc := 52) dX6_from_52
    · assumption
    · exact ⟨by omega, by omega⟩
    · omega
    apply V_iastW (Y := mX6_from) (pc := 53) dX6_from_53
    · assumption
    · exact ⟨by omega, by omega⟩
    · omega
    intro w_53 h_53 f_53
    refine V_iinc (Y := mX6_from) (pc := 54) dX6_from_54 rfl rfl ?_
    refine V_goto (tgt := 31) (Y := mX6_from) (pc := 57) dX6_from_57 (by decide) ?_
    refine ih (k + 1) w_53 _ (by omega) (by omega) h_53 (fun j hj => (f_53 j hj).trans (hf j hj)) (fun j hj => ?_)
    by_cases hjk : (j : Int) = k
    · rw [show j = k.toNat by omega, va_up_self]; congr 1; omega
    · rw [va_up_ne _ _ (by omega)]; exact h1 j (by omega)
set_option maxRecDepth 100000 in
theorem mx_from {i : Int} (h : MInv w (n, now, ca, po, fo, rs) S0 S1 k0 k1 tx rb rn rf) (hi : inR i) : Ctr mX6_from (rm 2) [.ref 99, vI i] nn w (pI (fun z w' => z = (fFrom (n, now, ca, po, fo, rs) S0 S1 k0 k1 i).1 ∧ MInv w' (fFrom (n, now, ca, po, fo, rs) S0 S1 k0 k1 i).2 S0 S1 k0 k1 tx (tl1 (-2) z rb) (tl1 (-3) z rn) (tl1 (-4) z rf) ∧ frM w w') nn) := by
  refine Ctr_of (lv := [some (.ref 99), some (vI i), none]) (by decide +kernel) rfl rfl ?_
  have h0 := h
  obtain ⟨⟨⟨ty, a0, sp, tk, vl, mn, fd, sv, ho⟩, ⟨f, hb0, hB⟩, hr, hq⟩, hO, hT, ⟨g, q, hg, hz, z0, z1, c0, c1, i0, i1⟩, hS⟩ := h
  have hqr : 0 ≤ i ∧ i ≤ 1 → (q i.toNat = if i = 0 then k0 else k1) := fun hh => by
    rcases (show i = 0 ∨ i = 1 by omega) with rfl | rfl
    · exact z0
    · exact z1
  have hk01 : (if i = 0 then k0 else k1) = 0 ∨ (if i = 0 then k0 else k1) = 1 := by split <;> assumption
  refine V_iload_n (Y := mX6_from) (pc := 0) dX6_from_0 rfl ?_
  refine V_i2l (Y := mX6_from) (pc := 1) dX6_from_1 hi ?_
  refine V_lconst (Y := mX6_from) (pc := 2) dX6_from_2 ?_
  refine V_lconst (Y := mX6_from) (pc := 3) dX6_from_3 ?_
  apply V_sR (Y := mX6_from) (pc := 4) dX6_from_4 ok_X6_in os_X6_in ln_X6_56 (cm_in (a := i) (b := 0) (c := 1) hi ⟨by omega, by omega⟩ ⟨by omega, by omega⟩)
  · rfl
  · rfl
  · rfl
  refine V_if_neB (tgt := 15) (Y := mX6_from) (pc := 7) dX6_from_7 (by decide) (fun h_7 => ?_) (fun h_7 => ?_)
  · refine V_aload_n (Y := mX6_from) (pc := 15) dX6_from_15 rfl ?_
    apply V_get (Y := mX6_from) (pc := 16) dX6_from_16 fl_X6_16
    · assumption
    · rfl
    refine V_iload_n (Y := mX6_from) (pc := 19) dX6_from_19 rfl ?_
    apply V_zald (Y := mX6_from) (pc := 20) dX6_from_20
    · assumption
    · exact ⟨by omega, by omega⟩
    · omega
    rw [hqr h_7]
    refine V_if_ne (tgt := 29) (Y := mX6_from) (pc := 21) dX6_from_21 (by decide) ⟨by omega, by omega⟩ (fun h_21 => ?_) (fun h_21 => ?_)
    · refine V_iconst (Y := mX6_from) (pc := 29) dX6_from_29 ?_
      refine V_istore_n (Y := mX6_from) (pc := 30) dX6_from_30 rfl ?_
      refine lpm_from (g := g) (by omega) ⟨_, _, _, _, _, _, _, _, _, ho⟩ hg (fun w' f' q1 q2 q3 => ?_) 98 0 w f (by omega) (by omega) hb0 (fun _ _ => rfl) (fun j hj => by omega)
      rcases (show i = 0 ∨ i = 1 by omega) with rfl | rfl
      · rw [if_pos rfl] at h_21
        have hk : k0 = 1 := by omega
        rw [show fFrom (n, now, ca, po, fo, rs) S0 S1 k0 k1 0 = (1, S0) from (if_neg (by omega)).trans ((if_pos rfl).trans (if_neg h_21))]
        have hK' : MK w' 0 S0 rb rn rf := ⟨⟨_, _, _, _, _, _, _, _, (q2 99 (by omega)).trans ho⟩, ⟨f', q1, BkS.ext (i0 hk) (fun j hj => by have := q3 j hj; rw [show 98 * (0 : Int).toNat + j = j by omega] at this; exact this)⟩, hr.keep (q2 _ (by omega)), hq⟩
        have hK' := hK'.tq0 (z := 1) (by omega)
        rw [tq_0, tq_0, tq_0] at hK'
        have qq := h0.frB hK' (fun j a b => q2 j a)
        exact pI_of ⟨rfl, qq.1, qq.2⟩
      · rw [if_neg (by omega)] at h_21
        have hk : k1 = 1 := by omega
        rw [show fFrom (n, now, ca, po, fo, rs) S0 S1 k0 k1 1 = (1, S1) from (if_neg (by omega)).trans ((if_neg (by omega)).trans (if_neg h_21))]
        have hK' : MK w' 0 S1 rb rn rf := ⟨⟨_, _, _, _, _, _, _, _, (q2 99 (by omega)).trans ho⟩, ⟨f', q1, BkS.ext (i1 hk) (fun j hj => by have := q3 j hj; rw [show 98 * (1 : Int).toNat + j = 98 + j by omega] at this; exact this)⟩, hr.keep (q2 _ (by omega)), hq⟩
        have hK' := hK'.tq0 (z := 1) (by omega)
        rw [tq_0, tq_0, tq_0] at hK'
        have qq := h0.frB hK' (fun j a b => q2 j a)
        exact pI_of ⟨rfl, qq.1, qq.2⟩
    · refine V_aload_n (Y := mX6_from) (pc := 24) dX6_from_24 rfl ?_
      apply V_vI (Y := mX6_from) (pc := 25) dX6_from_25 ok_X6_no ov_X6_no ln_X6_98 (cm_no ho hr hq)
      · assumption
      · rfl
      · rfl
      · rfl
      · rfl
      · rfl
      rintro z_9 w_9 ⟨hz2, g1, f1⟩
      subst hz2
      refine V_iret (Y := mX6_from) (pc := 28) dX6_from_28 rfl (Nat.le_of_ble_eq_true rfl) (Nat.le_of_ble_eq_true rfl) ?_
      have e : fFrom (n, now, ca, po, fo, rs) S0 S1 k0 k1 i = (-3, (n, now, ca, po, fo, rs)) := by
        rcases (show i = 0 ∨ i = 1 by omega) with rfl | rfl
        · rw [if_pos rfl] at h_21; exact (if_neg (by omega)).trans ((if_pos rfl).trans (if_pos h_21))
        · rw [if_neg (by omega)] at h_21; exact (if_neg (by omega)).trans ((if_neg (by omega)).trans (if_pos h_21))
      rw [e]
      have hK' : MK w_9 0 (n, now, ca, po, fo, rs) (tq 0 (-2) (-3) rb) (tq 0 (-3) (-3) rn) (tq 0 (-4) (-3) rf) := ⟨⟨_, _, _, _, _, _, _, _, (f1 _ (by omega)).trans ho⟩, ⟨f, (f1 _ (by omega)).trans hb0, hB⟩, g1, hq⟩
      rw [tq_0, tq_0, tq_0] at hK'
      have qq := h0.frB hK' (fun j a b => f1 j b)
      exact pI_of ⟨rfl, qq.1, qq.2⟩
  · refine V_aload_n (Y := mX6_from) (pc := 10) dX6_from_10 rfl ?_
    apply V_vI (Y := mX6_from) (pc := 11) dX6_from_11 ok_X6_bad ov_X6_bad ln_X6_79 (cm_bad ho hr hq)
    · assumption
    · rfl
    · rfl
    · rfl
    · rfl
    · rfl
    rintro z_9 w_9 ⟨hz2, g1, f1⟩
    subst hz2
    refine V_iret (Y := mX6_from) (pc := 14) dX6_from_14 rfl (Nat.le_of_ble_eq_true rfl) (Nat.le_of_ble_eq_true rfl) ?_
    rw [show fFrom (n, now, ca, po, fo, rs) S0 S1 k0 k1 i = (-2, (n, now, ca, po, fo, rs)) from if_pos h_7]
    have hK' : MK w_9 0 (n, now, ca, po, fo, rs) (tq 0 (-2) (-2) rb) (tq 0 (-3) (-2) rn) (tq 0 (-4) (-2) rf) := ⟨⟨_, _, _, _, _, _, _, _, (f1 _ (by omega)).trans ho⟩, ⟨f, (f1 _ (by omega)).trans hb0, hB⟩, g1, hq⟩
    rw [tq_0, tq_0, tq_0] at hK'
    have qq := h0.frB hK' (fun j a b => f1 j b)
    exact pI_of ⟨rfl, qq.1, qq.2⟩
set_option maxRecDepth 100000 in
theorem mx_clear {S : vSt} (h : MInv w S S0 S1 k0 k1 tx rb rn rf) : Ctr mX6_clear (rm 0) [.ref 99] nn w (pI (fun z w' => z = (tx.length : Int) ∧ MInv w' S S0 S1 k0 k1 [] rb rn rf ∧ frM w w') nn) := by
  refine Ctr_of (lv := [some (.ref 99), none]) (by decide +kernel) rfl rfl ?_
  obtain ⟨⟨-, ⟨f, hb0, hB⟩, hr, hq⟩, ⟨a0, sp, tk, vl, mn, fd, sv, ho⟩, ⟨t, ht, -⟩, hI, hS⟩ := h
  refine V_aload_n (Y := mX6_clear) (pc := 0) dX6_clear_0 rfl ?_
  apply V_get (Y := mX6_clear) (pc := 1) dX6_clear_1 fl_X6_107
  · assumption
  · rfl
  refine V_istore_n (Y := mX6_clear) (pc := 4) dX6_clear_4 rfl ?_
  refine V_aload_n (Y := mX6_clear) (pc := 5) dX6_clear_5 rfl ?_
  refine V_iconst (Y := mX6_clear) (pc := 6) dX6_clear_6 ?_
  apply V_putiW (Y := mX6_clear) (pc := 7) dX6_clear_7 fl_X6_107
  · assumption
  · exact Nat.le_of_ble_eq_true rfl
  intro w_7 h_7 f_7
  simp only [List.set_cons_zero, List.set_cons_succ] at h_7
  refine V_iload_n (Y := mX6_clear) (pc := 10) dX6_clear_10 rfl ?_
  refine V_iret (Y := mX6_clear) (pc := 11) dX6_clear_11 rfl (Nat.le_of_ble_eq_true rfl) (Nat.le_of_ble_eq_true rfl) ?_
  exact pI_of ⟨rfl, ⟨⟨⟨_, _, _, _, _, _, _, _, h_7⟩, ⟨f, (f_7 _ (by omega)).trans hb0, hB⟩, hr.keep (f_7 _ (by omega)), hq⟩, ⟨_, _, _, _, _, _, _, h_7⟩, ⟨t, (f_7 _ (by omega)).trans ht, Nat.zero_le _, fun k q1 q2 => by have q2 : k < (0 : Nat) := q2; omega⟩, hI.keep (f_7 _ (by omega)) (f_7 _ (by omega)), hS.keep (fun j hj => f_7 j (by omega))⟩, fun j hj => f_7 j (by omega)⟩
set_option maxRecDepth 100000 in
theorem lpm_type {v : Int64} {k : Int} (hk : 1 ≤ k ∧ k ≤ 8) (hs : (tx.length : Int) + k ≤ 200) {Q : vPost} (hQ : ∀ w', MObj w' ((tx ++ tyB v k.toNat).length : Int) → TxM w' (tx ++ tyB v k.toNat) → (∀ j, j ≠ 99 → j ≠ 105 → w' j = w j) → Q (some (vI ((tx.length : Int) + k))) nn w') : ∀ (m : Nat) (i : Int) (w' : vWd) (l : List Int), i = (m : Int) - 1 → m ≤ 8 → (l.length : Int) + m = tx.length + k → MObj w' l.length → TxM w' l → l ++ tyB v m = tx ++ tyB v k.toNat → (∀ j, j ≠ 99 → j ≠ 105 → w' j = w j) →
    V mX6_type (rm 2) Q 39 [some (.ref 99), some (.long v), none, some (vI k), some (vI i)] [] nn w' 0 0 := by
  intro m
  induction m with
  | zero =>
    intro i w' l h1 h8 h2 hO hT hl hf
    rw [tyB, List.append_nil] at hl
    have hQ2 := hQ w' (hl ▸ hO) (hl ▸ hT) hf
    obtain ⟨a0, sp, tk, vl, mn, fd, sv, ho⟩ := hO
    refine V_iload (Y := mX6_type) (pc := 39) dX6_type_39 rfl ?_
    refine V_if_lt (tgt := 81) (Y := mX6_type) (pc := 41) dX6_type_41 (by decide) ⟨by omega, by omega⟩ (fun h_41 => ?_) (fun h_41 => absurd h_41 (by omega))
    refine V_aload_n (Y := mX6_type) (pc := 81) dX6_type_81 rfl ?_
    apply V_get (Y := mX6_type) (pc := 82) dX6_type_82 fl_X6_107
    · assumption
    · rfl
    refine V_iret (Y := mX6_type) (pc := 85) dX6_type_85 rfl (Nat.le_of_ble_eq_true rfl) (Nat.le_of_ble_eq_true rfl) ?_
    rw [show (l.length : Int) = (tx.length : Int) + k by omega]
    exact hQ2
  | succ m ih =>
    intro i w' l h1 h8 h2 hO hT hl hf
    have hi : i = (m : Int) := by omega
    subst hi
    rw [tyB] at hl
    obtain ⟨a0, sp, tk, vl, mn, fd, sv, ho⟩ := hO
    obtain ⟨t, ht, hl200, htl⟩ := hT
    have hby := byM v m (by omega)
    refine V_iload (Y := mX6_type) (pc := 39) dX6_type_39 rfl ?_
    refine V_if_lt (tgt := 81) (Y := mX6_type) (pc := 41) dX6_type_41 (by decide) ⟨by omega, by omega⟩ (fun h_41 => absurd h_41 (by omega)) (fun h_41 => ?_)
    refine V_aload_n (Y := mX6_type) (pc := 44) dX6_type_44 rfl ?_
    apply V_get (Y := mX6_type) (pc := 45) dX6_type_45 fl_X6_26
    · assumption
    · rfl
    refine V_aload_n (Y := mX6_type) (pc := 48) dX6_type_48 rfl ?_
    apply V_get (Y := mX6_type) (pc := 49) dX6_type_49 fl_X6_107
    · assumption
    · rfl
    refine V_lload_n (Y := mX6_type) (pc := 52) dX6_type_52 rfl ?_
    refine V_bipush (Y := mX6_type) (pc := 53) dX6_type_53 ⟨by decide, by decide⟩ ?_
    refine V_iload (Y := mX6_type) (pc := 55) dX6_type_55 rfl ?_
    refine V_imul (Y := mX6_type) (pc := 57) dX6_type_57 ?_
    refine V_lshr (Y := mX6_type) (pc := 58) dX6_type_58 (rfl) ?_
    refine V_ldc2 (z := (255 : Int)) (Y := mX6_type) (pc := 59) dX6_type_59 cl_X6_111 (by decide) ?_
    refine V_land (Y := mX6_type) (pc := 62) dX6_type_62 (rfl) ?_
    refine V_l2i (Y := mX6_type) (pc := 63) dX6_type_63 (hby.trans (iI_self _).symm) ?_
    apply V_iastW (Y := mX6_type) (pc := 64) dX6_type_64
    · assumption
    · exact ⟨by omega, by omega⟩
    · omega
    intro w_64 h_64 f_64
    have o64 := (f_64 99 (by omega)).trans ho
    refine V_aload_n (Y := mX6_type) (pc := 65) dX6_type_65 rfl ?_
    refine V_dup (Y := mX6_type) (pc := 66) dX6_type_66 rfl ?_
    apply V_get (Y := mX6_type) (pc := 67) dX6_type_67 fl_X6_107
    · assumption
    · rfl
    refine V_iconst (Y := mX6_type) (pc := 70) dX6_type_70 ?_
    refine V_iadd (Y := mX6_type) (pc := 71) dX6_type_71 ?_
    apply V_putiW (Y := mX6_type) (pc := 72) dX6_type_72 fl_X6_107
    · assumption
    · exact Nat.le_of_ble_eq_true rfl
    intro w_72 h_72 f_72
    simp only [List.set_cons_zero, List.set_cons_succ] at h_72
    refine V_iinc (Y := mX6_type) (pc := 75) dX6_type_75 rfl rfl ?_
    refine V_goto (tgt := 39) (Y := mX6_type) (pc := 78) dX6_type_78 (by decide) ?_
    refine ih _ w_72 (l ++ [byJ v m]) (by omega) (by omega) (by rw [List.length_append]; show ((l.length + 1 : Nat) : Int) + m = _; omega) ⟨a0, sp, tk, vl, mn, fd, sv, ?_⟩ ⟨_, (f_72 _ (by omega)).trans h_64, by rw [app_len]; omega, fun j q1 q2 => ?_⟩ (by rw [List.append_assoc]; exact hl) (fun j a b => (f_72 j a).trans ((f_64 j b).trans (hf j a b)))
    · rw [app_len]; exact h_72
    · rw [app_len] at q2
      rw [rAt_app q1 (by omega)]
      by_cases hj : j = l.length
      · rw [if_pos hj, show j.toNat = ((l.length : Int)).toNat by omega, va_up_self]; rfl
      · rw [if_neg hj, va_up_ne _ _ (by omega)]; exact htl j q1 (by omega)
set_option maxRecDepth 100000 in
theorem mx_type {v : Int64} {k : Int} (h : MInv w (n, now, ca, po, fo, rs) S0 S1 k0 k1 tx rb rn rf) (hk : inR k) : Ctr mX6_type (rm 2) [.ref 99, .long v, vI k] nn w (pI (fun z w' => z = (fType tx v k).1 ∧ MInv w' (n, now, ca, po, fo, rs) S0 S1 k0 k1 (fType tx v k).2 (tl1 (-2) z rb) (tl1 (-3) z rn) (tl1 (-4) z rf) ∧ frM w w') nn) := by
  refine Ctr_of (lv := [some (.ref 99), some (.long v), none, some (vI k), none]) (by decide +kernel) rfl rfl ?_
  have h0 := h
  obtain ⟨⟨-, ⟨f, hb0, hB⟩, hr, hq⟩, hO, hT, hI, hS⟩ := h
  have hO0 := hO
  have hT0 := hT
  obtain ⟨a0, sp, tk, vl, mn, fd, sv, ho⟩ := hO
  obtain ⟨t, ht, hl200, htl⟩ := hT
  refine V_iload_n (Y := mX6_type) (pc := 0) dX6_type_0 rfl ?_
  refine V_i2l (Y := mX6_type) (pc := 1) dX6_type_1 hk ?_
  refine V_lconst (Y := mX6_type) (pc := 2) dX6_type_2 ?_
  refine V_ldc2 (z := (8 : Int)) (Y := mX6_type) (pc := 3) dX6_type_3 cl_X6_105 (by decide) ?_
  apply V_sR (Y := mX6_type) (pc := 6) dX6_type_6 ok_X6_in os_X6_in ln_X6_56 (cm_in (a := k) (b := 1) (c := 8) hk ⟨by omega, by omega⟩ ⟨by omega, by omega⟩)
  · rfl
  · rfl
  · rfl
  refine V_if_neB (tgt := 17) (Y := mX6_type) (pc := 9) dX6_type_9 (by decide) (fun h_9 => ?_) (fun h_9 => ?_)
  · refine V_aload_n (Y := mX6_type) (pc := 17) dX6_type_17 rfl ?_
    apply V_get (Y := mX6_type) (pc := 18) dX6_type_18 fl_X6_107
    · assumption
    · rfl
    refine V_iload_n (Y := mX6_type) (pc := 21) dX6_type_21 rfl ?_
    refine V_iadd (Y := mX6_type) (pc := 22) dX6_type_22 ?_
    refine V_sipush (Y := mX6_type) (pc := 23) dX6_type_23 ⟨by decide, by decide⟩ ?_
    refine V_icmp_le (tgt := 34) (Y := mX6_type) (pc := 26) dX6_type_26 (by decide) ⟨by omega, by omega⟩ ⟨by omega, by omega⟩ (fun h_26 => ?_) (fun h_26 => ?_)
    · refine V_iload_n (Y := mX6_type) (pc := 34) dX6_type_34 rfl ?_
      refine V_iconst (Y := mX6_type) (pc := 35) dX6_type_35 ?_
      refine V_isub (Y := mX6_type) (pc := 36) dX6_type_36 ?_
      refine V_istore (Y := mX6_type) (pc := 37) dX6_type_37 rfl ?_
      rw [show fType tx v k = ((tx.length : Int) + k, tx ++ tyB v k.toNat) from (if_neg (by omega)).trans (if_neg (by omega))]
      refine lpm_type h_9 (by omega) (fun w' q1 q2 q3 => pI_of ⟨rfl, ?_, fun j hj => q3 j (by omega) (by omega)⟩) k.toNat _ w tx (by omega) (by omega) (by omega) hO0 hT0 rfl (fun _ _ _ => rfl)
      rw [tl1_ne (by omega), tl1_ne (by omega), tl1_ne (by omega)]
      have q1' := q1
      obtain ⟨a0, sp, tk, vl, mn, fd, sv, q1⟩ := q1
      exact ⟨⟨⟨_, _, _, _, _, _, _, _, q1⟩, ⟨f, (q3 _ (by omega) (by omega)).trans hb0, hB⟩, hr.keep (q3 _ (by omega) (by omega)), hq⟩, q1', q2, hI.keep (q3 _ (by omega) (by omega)) (q3 _ (by omega) (by omega)), hS.keep (fun j hj => q3 j (by omega) (by omega))⟩
    · refine V_aload_n (Y := mX6_type) (pc := 29) dX6_type_29 rfl ?_
      apply V_vI (Y := mX6_type) (pc := 30) dX6_type_30 ok_X6_full ov_X6_full ln_X6_91 (cm_full ho hr hq)
      · assumption
      · rfl
      · rfl
      · rfl
      · rfl
      · rfl
      rintro z_9 w_9 ⟨hz2, g1, f1⟩
      subst hz2
      refine V_iret (Y := mX6_type) (pc := 33) dX6_type_33 rfl (Nat.le_of_ble_eq_true rfl) (Nat.le_of_ble_eq_true rfl) ?_
      rw [show fType tx v k = (-4, tx) from (if_neg (by omega)).trans (if_pos (by omega))]
      have hK' : MK w_9 0 (n, now, ca, po, fo, rs) (tq 0 (-2) (-4) rb) (tq 0 (-3) (-4) rn) (tq 0 (-4) (-4) rf) := ⟨⟨_, _, _, _, _, _, _, _, (f1 _ (by omega)).trans ho⟩, ⟨f, (f1 _ (by omega)).trans hb0, hB⟩, g1, hq⟩
      rw [tq_0, tq_0, tq_0] at hK'
      have qq := h0.frB hK' (fun j a b => f1 j b)
      exact pI_of ⟨rfl, qq.1, qq.2⟩
  · refine V_aload_n (Y := mX6_type) (pc := 12) dX6_type_12 rfl ?_
    apply V_vI (Y := mX6_type) (pc := 13) dX6_type_13 ok_X6_bad ov_X6_bad ln_X6_79 (cm_bad ho hr hq)
    · assumption
    · rfl
    · rfl
    · rfl
    · rfl
    · rfl
    rintro z_9 w_9 ⟨hz2, g1, f1⟩
    subst hz2
    refine V_iret (Y := mX6_type) (pc := 16) dX6_type_16 rfl (Nat.le_of_ble_eq_true rfl) (Nat.le_of_ble_eq_true rfl) ?_
    rw [show fType tx v k = (-2, tx) from if_pos h_9]
    have hK' : MK w_9 0 (n, now, ca, po, fo, rs) (tq 0 (-2) (-2) rb) (tq 0 (-3) (-2) rn) (tq 0 (-4) (-2) rf) := ⟨⟨_, _, _, _, _, _, _, _, (f1 _ (by omega)).trans ho⟩, ⟨f, (f1 _ (by omega)).trans hb0, hB⟩, g1, hq⟩
    rw [tq_0, tq_0, tq_0] at hK'
    have qq := h0.frB hK' (fun j a b => f1 j b)
    exact pI_of ⟨rfl, qq.1, qq.2⟩
end MOD
