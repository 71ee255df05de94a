/-! ===== DrawerWall$Reader: its marks ===== -/
abbrev rO (pl nx tk : Int) : va_E := .inr (1, [.ref 80, .ref 82, vI pl, vI nx, vI tk])
def bL (b : Int) : Prop := 97 ≤ b ∧ b ≤ 122
def bF1 (b : Int) : Prop := 48 ≤ b ∧ b ≤ 57
def bSp (b : Int) : Prop := b = 32
/-- the first place from p on that is not so -/
noncomputable def advF (P : Int → Prop) (l : List Int) : Nat → Int → Int
  | 0, p => p
  | m + 1, p => @ite Int (p < l.length ∧ P (rAt l p)) (Classical.propDecidable _) (advF P l m (p + 1)) p
noncomputable def adv (P : Int → Prop) (l : List Int) (p : Int) : Int := advF P l ((l.length : Int) - p).toNat p
theorem advF_f {P : Int → Prop} {l : List Int} {m : Nat} {p : Int} (h : ¬ (p < l.length ∧ P (rAt l p))) : advF P l m p = p := by
  cases m with
  | zero => rfl
  | succ m => exact if_neg h
theorem adv_f {P : Int → Prop} {l : List Int} {p : Int} (h : ¬ (p < l.length ∧ P (rAt l p))) : adv P l p = p := advF_f h
theorem adv_t {P : Int → Prop} {l : List Int} {p : Int} (h : p < l.length ∧ P (rAt l p)) : adv P l p = adv P l (p + 1) := by
  rw [adv, show ((l.length : Int) - p).toNat = ((l.length : Int) - (p + 1)).toNat + 1 by omega]
  exact if_pos h
theorem advF_rng (P : Int → Prop) (l : List Int) : ∀ (m : Nat) (p : Int), p ≤ l.length → p ≤ advF P l m p ∧ advF P l m p ≤ l.length
  | 0, p, h => ⟨Int.le_refl _, h⟩
  | m + 1, p, h => by
    by_cases hc : p < l.length ∧ P (rAt l p)
    · have ih := advF_rng P l m (p + 1) (by omega)
      rw [show advF P l (m + 1) p = advF P l m (p + 1) from if_pos hc]
      omega
    · rw [advF_f hc]; omega
theorem adv_rng (P : Int → Prop) {l : List Int} {p : Int} (h : p ≤ l.length) : p ≤ adv P l p ∧ adv P l p ≤ l.length := advF_rng P l _ p h
def byOK (l : List Int) : Prop := ∀ j : Int, 0 ≤ rAt l j ∧ rAt l j ≤ 255
/-- a word stands there -/
def isW (l : List Int) (s e : Int) (i : Nat) : Prop := e - s = lnS i ∧ ∀ k : Int, 0 ≤ k → k < lnS i → rAt l (s + k) = chS i k
noncomputable def wdOf (l : List Int) (s e : Int) : Int := @ite Int (isW l s e 0) (Classical.propDecidable _) 5 (@ite Int (isW l s e 1) (Classical.propDecidable _) 6 (@ite Int (isW l s e 2) (Classical.propDecidable _) 7 (@ite Int (isW l s e 3) (Classical.propDecidable _) 8 (@ite Int (isW l s e 4) (Classical.propDecidable _) 9 1))))
/-- a mark: its place, what it is, where the next begins -/
noncomputable def scn2 (l : List Int) (s : Int) : Int × Int × Int :=
  if ¬ s < l.length then (s, 0, s)
  else if 97 ≤ rAt l s ∧ rAt l s ≤ 122 then (s, wdOf l s (adv bL l (s + 1)), adv bL l (s + 1))
  else if 48 ≤ rAt l s ∧ rAt l s ≤ 57 then (s, if adv bF1 l (s + 1) = s + 1 then 2 else 1, adv bF1 l (s + 1))
  else (s, if rAt l s = 45 then 3 else if rAt l s = 59 then 4 else 1, s + 1)
noncomputable def scn (l : List Int) (p : Int) : Int × Int × Int := scn2 l (adv bSp l p)
section RD
variable {nn : Nat} {w : vWd} {pl nx tk : Int} {lb lc : List Int}
set_option maxRecDepth 100000 in
theorem c_isLetter {b : Int} (hb : inR b) : Ctr mX1_isLetter (rm 0) [vI b] nn w (pR (vI (bI (97 ≤ b ∧ b ≤ 122))) nn w) := by
  refine Ctr_of (lv := [some (vI b)]) (by decide +kernel) rfl rfl ?_
  refine V_iload_n (Y := mX1_isLetter) (pc := 0) dX1_isLetter_0 rfl ?_
  refine V_bipush (Y := mX1_isLetter) (pc := 1) dX1_isLetter_1 ⟨by decide, by decide⟩ ?_
  refine V_icmp_lt (tgt := 16) (Y := mX1_isLetter) (pc := 3) dX1_isLetter_3 (by decide) ⟨by omega, by omega⟩ ⟨by omega, by omega⟩ (fun h_3 => ?_) (fun h_3 => ?_)
  · refine V_iconst (Y := mX1_isLetter) (pc := 16) dX1_isLetter_16 ?_
    refine V_zret (ty := .boolean) (Y := mX1_isLetter) (pc := 17) dX1_isLetter_17 rfl rfl (Nat.le_of_ble_eq_true rfl) (Nat.le_of_ble_eq_true rfl) ?_
    first
      | exact pR_I (bI_t ⟨by omega, by omega⟩).symm
      | exact pR_I (bI_f (by omega)).symm
  · refine V_iload_n (Y := mX1_isLetter) (pc := 6) dX1_isLetter_6 rfl ?_
    refine V_bipush (Y := mX1_isLetter) (pc := 7) dX1_isLetter_7 ⟨by decide, by decide⟩ ?_
    refine V_icmp_gt (tgt := 16) (Y := mX1_isLetter) (pc := 9) dX1_isLetter_9 (by decide) ⟨by omega, by omega⟩ ⟨by omega, by omega⟩ (fun h_9 => ?_) (fun h_9 => ?_)
    · refine V_iconst (Y := mX1_isLetter) (pc := 16) dX1_isLetter_16 ?_
      refine V_zret (ty := .boolean) (Y := mX1_isLetter) (pc := 17) dX1_isLetter_17 rfl rfl (Nat.le_of_ble_eq_true rfl) (Nat.le_of_ble_eq_true rfl) ?_
      first
        | exact pR_I (bI_t ⟨by omega, by omega⟩).symm
        | exact pR_I (bI_f (by omega)).symm
    · refine V_iconst (Y := mX1_isLetter) (pc := 12) dX1_isLetter_12 ?_
      refine V_goto (tgt := 17) (Y := mX1_isLetter) (pc := 13) dX1_isLetter_13 (by decide) ?_
      refine V_zret (ty := .boolean) (Y := mX1_isLetter) (pc := 17) dX1_isLetter_17 rfl rfl (Nat.le_of_ble_eq_true rfl) (Nat.le_of_ble_eq_true rfl) ?_
      first
        | exact pR_I (bI_t ⟨by omega, by omega⟩).symm
        | exact pR_I (bI_f (by omega)).symm
set_option maxRecDepth 100000 in
theorem c_isFigure {b : Int} (hb : inR b) : Ctr mX1_isFigure (rm 0) [vI b] nn w (pR (vI (bI (48 ≤ b ∧ b ≤ 57))) nn w) := by
  refine Ctr_of (lv := [some (vI b)]) (by decide +kernel) rfl rfl ?_
  refine V_iload_n (Y := mX1_isFigure) (pc := 0) dX1_isFigure_0 rfl ?_
  refine V_bipush (Y := mX1_isFigure) (pc := 1) dX1_isFigure_1 ⟨by decide, by decide⟩ ?_
  refine V_icmp_lt (tgt := 16) (Y := mX1_isFigure) (pc := 3) dX1_isFigure_3 (by decide) ⟨by omega, by omega⟩ ⟨by omega, by omega⟩ (fun h_3 => ?_) (fun h_3 => ?_)
  · refine V_iconst (Y := mX1_isFigure) (pc := 16) dX1_isFigure_16 ?_
    refine V_zret (ty := .boolean) (Y := mX1_isFigure) (pc := 17) dX1_isFigure_17 rfl rfl (Nat.le_of_ble_eq_true rfl) (Nat.le_of_ble_eq_true rfl) ?_
    first
      | exact pR_I (bI_t ⟨by omega, by omega⟩).symm
      | exact pR_I (bI_f (by omega)).symm
  · refine V_iload_n (Y := mX1_isFigure) (pc := 6) dX1_isFigure_6 rfl ?_
    refine V_bipush (Y := mX1_isFigure) (pc := 7) dX1_isFigure_7 ⟨by decide, by decide⟩ ?_
    refine V_icmp_gt (tgt := 16) (Y := mX1_isFigure) (pc := 9) dX1_isFigure_9 (by decide) ⟨by omega, by omega⟩ ⟨by omega, by omega⟩ (fun h_9 => ?_) (fun h_9 => ?_)
    · refine V_iconst (Y := mX1_isFigure) (pc := 16) dX1_isFigure_16 ?_
      refine V_zret (ty := .boolean) (Y := mX1_isFigure) (pc := 17) dX1_isFigure_17 rfl rfl (Nat.le_of_ble_eq_true rfl) (Nat.le_of_ble_eq_true rfl) ?_
      first
        | exact pR_I (bI_t ⟨by omega, by omega⟩).symm
        | exact pR_I (bI_f (by omega)).symm
    · refine V_iconst (Y := mX1_isFigure) (pc := 12) dX1_isFigure_12 ?_
      refine V_goto (tgt := 17) (Y := mX1_isFigure) (pc := 13) dX1_isFigure_13 (by decide) ?_
      refine V_zret (ty := .boolean) (Y := mX1_isFigure) (pc := 17) dX1_isFigure_17 rfl rfl (Nat.le_of_ble_eq_true rfl) (Nat.le_of_ble_eq_true rfl) ?_
      first
        | exact pR_I (bI_t ⟨by omega, by omega⟩).symm
        | exact pR_I (bI_f (by omega)).symm
set_option maxRecDepth 100000 in
theorem c_numbersOf {b : Int} (hb : inR b) : Ctr mX1_numbersOf (rm 0) [vI b] nn w (pR (vI (if b = 6 then 4 else if b = 8 then 2 else 1)) nn w) := by
  refine Ctr_of (lv := [some (vI b)]) (by decide +kernel) rfl rfl ?_
  refine V_iload_n (Y := mX1_numbersOf) (pc := 0) dX1_numbersOf_0 rfl ?_
  refine V_bipush (Y := mX1_numbersOf) (pc := 1) dX1_numbersOf_1 ⟨by decide, by decide⟩ ?_
  refine V_icmp_ne (tgt := 8) (Y := mX1_numbersOf) (pc := 3) dX1_numbersOf_3 (by decide) ⟨by omega, by omega⟩ ⟨by omega, by omega⟩ (fun h_3 => ?_) (fun h_3 => ?_)
  · refine V_iload_n (Y := mX1_numbersOf) (pc := 8) dX1_numbersOf_8 rfl ?_
    refine V_bipush (Y := mX1_numbersOf) (pc := 9) dX1_numbersOf_9 ⟨by decide, by decide⟩ ?_
    refine V_icmp_ne (tgt := 18) (Y := mX1_numbersOf) (pc := 11) dX1_numbersOf_11 (by decide) ⟨by omega, by omega⟩ ⟨by omega, by omega⟩ (fun h_11 => ?_) (fun h_11 => ?_)
    · refine V_iconst (Y := mX1_numbersOf) (pc := 18) dX1_numbersOf_18 ?_
      refine V_iret (Y := mX1_numbersOf) (pc := 19) dX1_numbersOf_19 rfl (Nat.le_of_ble_eq_true rfl) (Nat.le_of_ble_eq_true rfl) ?_
      first
        | exact pR_I (by rw [if_neg h_3, if_pos h_11])
        | exact pR_I (by rw [if_neg h_3, if_neg h_11])
    · refine V_iconst (Y := mX1_numbersOf) (pc := 14) dX1_numbersOf_14 ?_
      refine V_goto (tgt := 19) (Y := mX1_numbersOf) (pc := 15) dX1_numbersOf_15 (by decide) ?_
      refine V_iret (Y := mX1_numbersOf) (pc := 19) dX1_numbersOf_19 rfl (Nat.le_of_ble_eq_true rfl) (Nat.le_of_ble_eq_true rfl) ?_
      first
        | exact pR_I (by rw [if_neg h_3, if_pos h_11])
        | exact pR_I (by rw [if_neg h_3, if_neg h_11])
  · refine V_iconst (Y := mX1_numbersOf) (pc := 6) dX1_numbersOf_6 ?_
    refine V_iret (Y := mX1_numbersOf) (pc := 7) dX1_numbersOf_7 rfl (Nat.le_of_ble_eq_true rfl) (Nat.le_of_ble_eq_true rfl) ?_
    exact pR_I (by rw [if_pos h_3])
set_option maxRecDepth 100000 in
theorem c_items (ho : w 79 = some (rO pl nx tk)) (hc : RowAt w 82 1000 lc) : Ctr mX1_items (rm 1) [.ref 79] nn w (pR (vI ((lc.length : Int) / 5)) nn w) := by
  refine Ctr_of (lv := [some (.ref 79)]) (by decide +kernel) rfl rfl ?_
  have hl := hc.len
  refine V_aload_n (Y := mX1_items) (pc := 0) dX1_items_0 rfl ?_
  apply V_get (Y := mX1_items) (pc := 1) dX1_items_1 fl_X1_20
  · assumption
  · rfl
  apply V_vR (Y := mX1_items) (pc := 4) dX1_items_4 ok_X2_size ov_X2_size ln_X1_33 (c_Row_size hc)
  · exact hc.obj
  · rfl
  · rfl
  · rfl
  · rfl
  · rfl
  refine V_iconst (Y := mX1_items) (pc := 7) dX1_items_7 ?_
  refine V_idiv (Y := mX1_items) (pc := 8) dX1_items_8 ⟨by omega, by omega⟩ (by omega) ⟨by decide, by decide⟩ (by decide) ?_
  refine V_iret (Y := mX1_items) (pc := 9) dX1_items_9 rfl (Nat.le_of_ble_eq_true rfl) (Nat.le_of_ble_eq_true rfl) ?_
  exact pR_of rfl
set_option maxRecDepth 100000 in
theorem lp_isHere {i : Nat} (hi5 : i < 5) (ho : w 79 = some (rO pl nx tk)) (hb : RowAt w 80 200 lb) (hby : byOK lb) (hpl : 0 ≤ pl ∧ pl ≤ 1000) (hlen : nx - pl = lnS i) : ∀ (m : Nat) (k : Int), 0 ≤ k → k ≤ lnS i → (lnS i - k).toNat < m → (∀ j : Int, 0 ≤ j → j < k → rAt lb (pl + j) = chS i j) →
    V mX1_isHere (rm 4) (pR (vI (cI (isW lb pl nx i))) nn w) 20 [some (.ref 79), some (.retAddr i), some (vI k)] [] nn w 0 0 := by
  intro m
  induction m with
  | zero => intro k h1 h2 h3; omega
  | succ m ih =>
    intro k hk hk2 hm hall
    have h1 := lnS_rng i hi5
    have h2 := lnS_eq i hi5
    have hbk := hby (pl + k)
    have hch := fun (q : k < lnS i) => (ch_key i hi5 k.toNat (by omega)).2.2
    rw [show ((k.toNat : Nat) : Int) = k by omega] at hch
    refine V_iload_n (Y := mX1_isHere) (pc := 20) dX1_isHere_20 rfl ?_
    refine V_aload_nS (Y := mX1_isHere) (pc := 21) dX1_isHere_21 rfl ?_
    apply V_vRS (Y := mX1_isHere) (pc := 22) dX1_isHere_22 ok_J0_length_8abf5 ov_J0_length_8abf5 ln_X1_93 (c_sLength hi5) (by omega) rfl
    · rfl
    · rfl
    · rfl
    refine V_icmp_ge (tgt := 57) (Y := mX1_isHere) (pc := 25) dX1_isHere_25 (by decide) ⟨by omega, by omega⟩ ⟨by omega, by omega⟩ (fun h_25 => ?_) (fun h_25 => ?_)
    · try have hch := hch (by omega)
      refine V_iconst (Y := mX1_isHere) (pc := 57) dX1_isHere_57 ?_
      refine V_zret (ty := .boolean) (Y := mX1_isHere) (pc := 58) dX1_isHere_58 rfl rfl (Nat.le_of_ble_eq_true rfl) (Nat.le_of_ble_eq_true rfl) ?_
      exact pR_I (cI_1.mpr ⟨hlen, fun j q1 q2 => hall j q1 (by omega)⟩).symm
    · try have hch := hch (by omega)
      refine V_aload_n (Y := mX1_isHere) (pc := 28) dX1_isHere_28 rfl ?_
      apply V_get (Y := mX1_isHere) (pc := 29) dX1_isHere_29 fl_X1_14
      · assumption
      · rfl
      refine V_aload_n (Y := mX1_isHere) (pc := 32) dX1_isHere_32 rfl ?_
      apply V_get (Y := mX1_isHere) (pc := 33) dX1_isHere_33 fl_X1_23
      · assumption
      · rfl
      refine V_iload_n (Y := mX1_isHere) (pc := 36) dX1_isHere_36 rfl ?_
      refine V_iadd (Y := mX1_isHere) (pc := 37) dX1_isHere_37 ?_
      apply V_vR (Y := mX1_isHere) (pc := 38) dX1_isHere_38 ok_X2_at ov_X2_at ln_X1_61 (c_Row_at (i := pl + k) hb ⟨by omega, by omega⟩)
      · exact hb.obj
      · rfl
      · rfl
      · rfl
      · rfl
      · rfl
      refine V_aload_nS (Y := mX1_isHere) (pc := 41) dX1_isHere_41 rfl ?_
      refine V_iload_n (Y := mX1_isHere) (pc := 42) dX1_isHere_42 rfl ?_
      apply V_vRS (Y := mX1_isHere) (pc := 43) dX1_isHere_43 ok_J0_charAt_5068e ov_J0_charAt_5068e ln_X1_98 (c_sChar (k := k) hi5 ⟨hk, by omega⟩) (by omega) rfl
      · rfl
      · rfl
      · rfl
      refine V_icmp_eq (tgt := 51) (Y := mX1_isHere) (pc := 46) dX1_isHere_46 (by decide) ⟨by omega, by omega⟩ ⟨by omega, by omega⟩ (fun h_46 => ?_) (fun h_46 => ?_)
      · refine V_iinc (Y := mX1_isHere) (pc := 51) dX1_isHere_51 rfl rfl ?_
        refine V_goto (tgt := 20) (Y := mX1_isHere) (pc := 54) dX1_isHere_54 (by decide) ?_
        refine ih (k + 1) (by omega) (by omega) (by omega) (fun j q1 q2 => ?_)
        rcases (show j < k ∨ j = k by omega) with q3 | q3
        · exact hall j q1 q3
        · rw [q3]; exact h_46
      · refine V_iconst (Y := mX1_isHere) (pc := 49) dX1_isHere_49 ?_
        refine V_zret (ty := .boolean) (Y := mX1_isHere) (pc := 50) dX1_isHere_50 rfl rfl (Nat.le_of_ble_eq_true rfl) (Nat.le_of_ble_eq_true rfl) ?_
        exact pR_I (cI_0.mpr (fun q => h_46 (q.2 k hk (by omega)))).symm
set_option maxRecDepth 100000 in
theorem c_isHere {i : Nat} (hi5 : i < 5) (ho : w 79 = some (rO pl nx tk)) (hb : RowAt w 80 200 lb) (hby : byOK lb) (hpl : 0 ≤ pl ∧ pl ≤ 1000) (hnx : 0 ≤ nx ∧ nx ≤ 1000) : Ctr mX1_isHere (rm 4) [.ref 79, .retAddr i] nn w (pR (vI (cI (isW lb pl nx i))) nn w) := by
  refine Ctr_of (lv := [some (.ref 79), some (.retAddr i), none]) (by decide +kernel) rfl rfl ?_
  have h1 := lnS_rng i hi5
  refine V_aload_n (Y := mX1_isHere) (pc := 0) dX1_isHere_0 rfl ?_
  apply V_get (Y := mX1_isHere) (pc := 1) dX1_isHere_1 fl_X1_27
  · assumption
  · rfl
  refine V_aload_n (Y := mX1_isHere) (pc := 4) dX1_isHere_4 rfl ?_
  apply V_get (Y := mX1_isHere) (pc := 5) dX1_isHere_5 fl_X1_23
  · assumption
  · rfl
  refine V_isub (Y := mX1_isHere) (pc := 8) dX1_isHere_8 ?_
  refine V_aload_nS (Y := mX1_isHere) (pc := 9) dX1_isHere_9 rfl ?_
  apply V_vRS (Y := mX1_isHere) (pc := 10) dX1_isHere_10 ok_J0_length_8abf5 ov_J0_length_8abf5 ln_X1_93 (c_sLength hi5) (by omega) rfl
  · rfl
  · rfl
  · rfl
  refine V_icmp_eq (tgt := 18) (Y := mX1_isHere) (pc := 13) dX1_isHere_13 (by decide) ⟨by omega, by omega⟩ ⟨by omega, by omega⟩ (fun h_13 => ?_) (fun h_13 => ?_)
  · refine V_iconst (Y := mX1_isHere) (pc := 18) dX1_isHere_18 ?_
    refine V_istore_n (Y := mX1_isHere) (pc := 19) dX1_isHere_19 rfl ?_
    exact lp_isHere hi5 ho hb hby hpl (by omega) ((lnS i).toNat + 1) 0 (by omega) (by omega) (by omega) (fun j q1 q2 => by omega)
  · refine V_iconst (Y := mX1_isHere) (pc := 16) dX1_isHere_16 ?_
    refine V_zret (ty := .boolean) (Y := mX1_isHere) (pc := 17) dX1_isHere_17 rfl rfl (Nat.le_of_ble_eq_true rfl) (Nat.le_of_ble_eq_true rfl) ?_
    exact pR_I (cI_0.mpr (fun q => h_13 q.1)).symm
set_option maxRecDepth 100000 in
theorem lp_wordHere {e : Int} (hb : RowAt w 80 200 lb) (hby : byOK lb) (hpl : 0 ≤ pl ∧ pl ≤ 1000) {Q : vPost} (hQ : ∀ w', w' 79 = some (rO pl e tk) → (∀ j, j ≠ 79 → w' j = w j) → Q (some (vI (wdOf lb pl e))) nn w') : ∀ (m : Nat) (p : Int) (w' : vWd), 0 ≤ p → p ≤ lb.length → ((lb.length : Int) - p).toNat < m → adv bL lb p = e → w' 79 = some (rO pl p tk) → (∀ j, j ≠ 79 → w' j = w j) →
    V mX1_wordHere (rm 5) Q 5 [some (.ref 79), some (vI p)] [] nn w' 0 0 := by
  intro m
  induction m with
  | zero => intro p w' h1 h2 h3; omega
  | succ m ih =>
    intro p w' hp hp2 hm he ho hf
    have hb' := hb.keep (w' := w') (hf _ (by omega)) (hf _ (by omega))
    have hl := hb.len
    have hbk := hby p
    refine V_iload_n (Y := mX1_wordHere) (pc := 5) dX1_wordHere_5 rfl ?_
    refine V_aload_n (Y := mX1_wordHere) (pc := 6) dX1_wordHere_6 rfl ?_
    apply V_get (Y := mX1_wordHere) (pc := 7) dX1_wordHere_7 fl_X1_14
    · assumption
    · rfl
    apply V_vR (Y := mX1_wordHere) (pc := 10) dX1_wordHere_10 ok_X2_size ov_X2_size ln_X1_33 (c_Row_size hb')
    · exact hb'.obj
    · rfl
    · rfl
    · rfl
    · rfl
    · rfl
    
    refine V_icmp_ge (tgt := 43) (Y := mX1_wordHere) (pc := 13) dX1_wordHere_13 (by decide) ⟨by omega, by omega⟩ ⟨by omega, by omega⟩ (fun h_13 => ?_) (fun h_13 => ?_)
    · have hpe : p = e := by
        rw [← he]
        first
          | exact (adv_f (fun q => h_27 q.2)).symm
          | exact (adv_f (fun q => by omega)).symm
      subst hpe
      have hq := hQ w' ho hf
      rw [wdOf] at hq
      refine V_aload_n (Y := mX1_wordHere) (pc := 43) dX1_wordHere_43 rfl ?_
      refine V_ldcS (i := 0) (Y := mX1_wordHere) (pc := 44) dX1_wordHere_44 rfl (by decide) rfl ?_
      apply V_vR (Y := mX1_wordHere) (pc := 46) dX1_wordHere_46 ok_X1_isHere ov_X1_isHere ln_X1_81 (c_isHere (i := 0) (by decide) ho hb' hby hpl ⟨by omega, by omega⟩)
      · assumption
      · rfl
      · rfl
      · rfl
      · rfl
      · rfl
      refine V_if_eq (tgt := 54) (Y := mX1_wordHere) (pc := 49) dX1_wordHere_49 (by decide) (cI_R _) (fun h_49 => ?_) (fun h_49 => ?_)
      · refine V_aload_n (Y := mX1_wordHere) (pc := 54) dX1_wordHere_54 rfl ?_
        refine V_ldcS (i := 1) (Y := mX1_wordHere) (pc := 55) dX1_wordHere_55 rfl (by decide) rfl ?_
        apply V_vR (Y := mX1_wordHere) (pc := 57) dX1_wordHere_57 ok_X1_isHere ov_X1_isHere ln_X1_81 (c_isHere (i := 1) (by decide) ho hb' hby hpl ⟨by omega, by omega⟩)
        · assumption
        · rfl
        · rfl
        · rfl
        · rfl
        · rfl
        refine V_if_eq (tgt := 66) (Y := mX1_wordHere) (pc := 60) dX1_wordHere_60 (by decide) (cI_R _) (fun h_60 => ?_) (fun h_60 => ?_)
        · refine V_aload_n (Y := mX1_wordHere) (pc := 66) dX1_wordHere_66 rfl ?_
          refine V_ldcS (i := 2) (Y := mX1_wordHere) (pc := 67) dX1_wordHere_67 rfl (by decide) rfl ?_
          apply V_vR (Y := mX1_wordHere) (pc := 69) dX1_wordHere_69 ok_X1_isHere ov_X1_isHere ln_X1_81 (c_isHere (i := 2) (by decide) ho hb' hby hpl ⟨by omega, by omega⟩)
          · assumption
          · rfl
          · rfl
          · rfl
          · rfl
          · rfl
          refine V_if_eq (tgt := 78) (Y := mX1_wordHere) (pc := 72) dX1_wordHere_72 (by decide) (cI_R _) (fun h_72 => ?_) (fun h_72 => ?_)
          · refine V_aload_n (Y := mX1_wordHere) (pc := 78) dX1_wordHere_78 rfl ?_
            refine V_ldcS (i := 3) (Y := mX1_wordHere) (pc := 79) dX1_wordHere_79 rfl (by decide) rfl ?_
            apply V_vR (Y := mX1_wordHere) (pc := 81) dX1_wordHere_81 ok_X1_isHere ov_X1_isHere ln_X1_81 (c_isHere (i := 3) (by decide) ho hb' hby hpl ⟨by omega, by omega⟩)
            · assumption
            · rfl
            · rfl
            · rfl
            · rfl
            · rfl
            refine V_if_eq (tgt := 90) (Y := mX1_wordHere) (pc := 84) dX1_wordHere_84 (by decide) (cI_R _) (fun h_84 => ?_) (fun h_84 => ?_)
            · refine V_aload_n (Y := mX1_wordHere) (pc := 90) dX1_wordHere_90 rfl ?_
              refine V_ldcS (i := 4) (Y := mX1_wordHere) (pc := 91) dX1_wordHere_91 rfl (by decide) rfl ?_
              apply V_vR (Y := mX1_wordHere) (pc := 93) dX1_wordHere_93 ok_X1_isHere ov_X1_isHere ln_X1_81 (c_isHere (i := 4) (by decide) ho hb' hby hpl ⟨by omega, by omega⟩)
              · assumption
              · rfl
              · rfl
              · rfl
              · rfl
              · rfl
              refine V_if_eq (tgt := 104) (Y := mX1_wordHere) (pc := 96) dX1_wordHere_96 (by decide) (cI_R _) (fun h_96 => ?_) (fun h_96 => ?_)
              · refine V_iconst (Y := mX1_wordHere) (pc := 104) dX1_wordHere_104 ?_
                refine V_iret (Y := mX1_wordHere) (pc := 105) dX1_wordHere_105 rfl (Nat.le_of_ble_eq_true rfl) (Nat.le_of_ble_eq_true rfl) ?_
                first
                  | (rw [if_neg (cI_0.mp h_49), if_neg (cI_0.mp h_60), if_neg (cI_0.mp h_72), if_neg (cI_0.mp h_84), if_pos (Classical.byContradiction (fun q => h_96 (cI_0.mpr q)))] at hq
                     exact hq)
                  | (rw [if_neg (cI_0.mp h_49), if_neg (cI_0.mp h_60), if_neg (cI_0.mp h_72), if_neg (cI_0.mp h_84), if_neg (cI_0.mp h_96)] at hq
                     exact hq)
              · refine V_bipush (Y := mX1_wordHere) (pc := 99) dX1_wordHere_99 ⟨by decide, by decide⟩ ?_
                refine V_goto (tgt := 105) (Y := mX1_wordHere) (pc := 101) dX1_wordHere_101 (by decide) ?_
                refine V_iret (Y := mX1_wordHere) (pc := 105) dX1_wordHere_105 rfl (Nat.le_of_ble_eq_true rfl) (Nat.le_of_ble_eq_true rfl) ?_
                first
                  | (rw [if_neg (cI_0.mp h_49), if_neg (cI_0.mp h_60), if_neg (cI_0.mp h_72), if_neg (cI_0.mp h_84), if_pos (Classical.byContradiction (fun q => h_96 (cI_0.mpr q)))] at hq
                     exact hq)
                  | (rw [if_neg (cI_0.mp h_49), if_neg (cI_0.mp h_60), if_neg (cI_0.mp h_72), if_neg (cI_0.mp h_84), if_neg (cI_0.mp h_96)] at hq
                     exact hq)
            · refine V_bipush (Y := mX1_wordHere) (pc := 87) dX1_wordHere_87 ⟨by decide, by decide⟩ ?_
              refine V_iret (Y := mX1_wordHere) (pc := 89) dX1_wordHere_89 rfl (Nat.le_of_ble_eq_true rfl) (Nat.le_of_ble_eq_true rfl) ?_
              rw [if_neg (cI_0.mp h_49), if_neg (cI_0.mp h_60), if_neg (cI_0.mp h_72), if_pos (Classical.byContradiction (fun q => h_84 (cI_0.mpr q)))] at hq
              exact hq
          · refine V_bipush (Y := mX1_wordHere) (pc := 75) dX1_wordHere_75 ⟨by decide, by decide⟩ ?_
            refine V_iret (Y := mX1_wordHere) (pc := 77) dX1_wordHere_77 rfl (Nat.le_of_ble_eq_true rfl) (Nat.le_of_ble_eq_true rfl) ?_
            rw [if_neg (cI_0.mp h_49), if_neg (cI_0.mp h_60), if_pos (Classical.byContradiction (fun q => h_72 (cI_0.mpr q)))] at hq
            exact hq
        · refine V_bipush (Y := mX1_wordHere) (pc := 63) dX1_wordHere_63 ⟨by decide, by decide⟩ ?_
          refine V_iret (Y := mX1_wordHere) (pc := 65) dX1_wordHere_65 rfl (Nat.le_of_ble_eq_true rfl) (Nat.le_of_ble_eq_true rfl) ?_
          rw [if_neg (cI_0.mp h_49), if_pos (Classical.byContradiction (fun q => h_60 (cI_0.mpr q)))] at hq
          exact hq
      · refine V_iconst (Y := mX1_wordHere) (pc := 52) dX1_wordHere_52 ?_
        refine V_iret (Y := mX1_wordHere) (pc := 53) dX1_wordHere_53 rfl (Nat.le_of_ble_eq_true rfl) (Nat.le_of_ble_eq_true rfl) ?_
        rw [if_pos (Classical.byContradiction (fun q => h_49 (cI_0.mpr q)))] at hq
        exact hq
    · refine V_aload_n (Y := mX1_wordHere) (pc := 16) dX1_wordHere_16 rfl ?_
      apply V_get (Y := mX1_wordHere) (pc := 17) dX1_wordHere_17 fl_X1_14
      · assumption
      · rfl
      refine V_iload_n (Y := mX1_wordHere) (pc := 20) dX1_wordHere_20 rfl ?_
      apply V_vR (Y := mX1_wordHere) (pc := 21) dX1_wordHere_21 ok_X2_at ov_X2_at ln_X1_61 (c_Row_at (i := p) hb' ⟨by omega, by omega⟩)
      · exact hb'.obj
      · rfl
      · rfl
      · rfl
      · rfl
      · rfl
      apply V_sR (Y := mX1_wordHere) (pc := 24) dX1_wordHere_24 ok_X1_isLetter os_X1_isLetter ln_X1_67 (c_isLetter (b := rAt lb p) ⟨by omega, by omega⟩)
      · rfl
      · rfl
      · rfl
      refine V_if_eqB (tgt := 43) (Y := mX1_wordHere) (pc := 27) dX1_wordHere_27 (by decide) (fun h_27 => ?_) (fun h_27 => ?_)
      · have hpe : p = e := by
          rw [← he]
          first
            | exact (adv_f (fun q => h_27 q.2)).symm
            | exact (adv_f (fun q => by omega)).symm
        subst hpe
        have hq := hQ w' ho hf
        rw [wdOf] at hq
        refine V_aload_n (Y := mX1_wordHere) (pc := 43) dX1_wordHere_43 rfl ?_
        refine V_ldcS (i := 0) (Y := mX1_wordHere) (pc := 44) dX1_wordHere_44 rfl (by decide) rfl ?_
        apply V_vR (Y := mX1_wordHere) (pc := 46) dX1_wordHere_46 ok_X1_isHere ov_X1_isHere ln_X1_81 (c_isHere (i := 0) (by decide) ho hb' hby hpl ⟨by omega, by omega⟩)
        · assumption
        · rfl
        · rfl
        · rfl
        · rfl
        · rfl
        refine V_if_eq (tgt := 54) (Y := mX1_wordHere) (pc := 49) dX1_wordHere_49 (by decide) (cI_R _) (fun h_49 => ?_) (fun h_49 => ?_)
        · refine V_aload_n (Y := mX1_wordHere) (pc := 54) dX1_wordHere_54 rfl ?_
          refine V_ldcS (i := 1) (Y := mX1_wordHere) (pc := 55) dX1_wordHere_55 rfl (by decide) rfl ?_
          apply V_vR (Y := mX1_wordHere) (pc := 57) dX1_wordHere_57 ok_X1_isHere ov_X1_isHere ln_X1_81 (c_isHere (i := 1) (by decide) ho hb' hby hpl ⟨by omega, by omega⟩)
          · assumption
          · rfl
          · rfl
          · rfl
          · rfl
          · rfl
          refine V_if_eq (tgt := 66) (Y := mX1_wordHere) (pc := 60) dX1_wordHere_60 (by decide) (cI_R _) (fun h_60 => ?_) (fun h_60 => ?_)
          · refine V_aload_n (Y := mX1_wordHere) (pc := 66) dX1_wordHere_66 rfl ?_
            refine V_ldcS (i := 2) (Y := mX1_wordHere) (pc := 67) dX1_wordHere_67 rfl (by decide) rfl ?_
            apply V_vR (Y := mX1_wordHere) (pc := 69) dX1_wordHere_69 ok_X1_isHere ov_X1_isHere ln_X1_81 (c_isHere (i := 2) (by decide) ho hb' hby hpl ⟨by omega, by omega⟩)
            · assumption
            · rfl
            · rfl
            · rfl
            · rfl
            · rfl
            refine V_if_eq (tgt := 78) (Y := mX1_wordHere) (pc := 72) dX1_wordHere_72 (by decide) (cI_R _) (fun h_72 => ?_) (fun h_72 => ?_)
            · refine V_aload_n (Y := mX1_wordHere) (pc := 78) dX1_wordHere_78 rfl ?_
              refine V_ldcS (i := 3) (Y := mX1_wordHere) (pc := 79) dX1_wordHere_79 rfl (by decide) rfl ?_
              apply V_vR (Y := mX1_wordHere) (pc := 81) dX1_wordHere_81 ok_X1_isHere ov_X1_isHere ln_X1_81 (c_isHere (i := 3) (by decide) ho hb' hby hpl ⟨by omega, by omega⟩)
              · assumption
              · rfl
              · rfl
              · rfl
              · rfl
              · rfl
              refine V_if_eq (tgt := 90) (Y := mX1_wordHere) (pc := 84) dX1_wordHere_84 (by decide) (cI_R _) (fun h_84 => ?_) (fun h_84 => ?_)
              · refine V_aload_n (Y := mX1_wordHere) (pc := 90) dX1_wordHere_90 rfl ?_
                refine V_ldcS (i := 4) (Y := mX1_wordHere) (pc := 91) dX1_wordHere_91 rfl (by decide) rfl ?_
                apply V_vR (Y := mX1_wordHere) (pc := 93) dX1_wordHere_93 ok_X1_isHere ov_X1_isHere ln_X1_81 (c_isHere (i := 4) (by decide) ho hb' hby hpl ⟨by omega, by omega⟩)
                · assumption
                · rfl
                · rfl
                · rfl
                · rfl
                · rfl
                refine V_if_eq (tgt := 104) (Y := mX1_wordHere) (pc := 96) dX1_wordHere_96 (by decide) (cI_R _) (fun h_96 => ?_) (fun h_96 => ?_)
                · refine V_iconst (Y := mX1_wordHere) (pc := 104) dX1_wordHere_104 ?_
                  refine V_iret (Y := mX1_wordHere) (pc := 105) dX1_wordHere_105 rfl (Nat.le_of_ble_eq_true rfl) (Nat.le_of_ble_eq_true rfl) ?_
                  first
                    | (rw [if_neg (cI_0.mp h_49), if_neg (cI_0.mp h_60), if_neg (cI_0.mp h_72), if_neg (cI_0.mp h_84), if_pos (Classical.byContradiction (fun q => h_96 (cI_0.mpr q)))] at hq
                       exact hq)
                    | (rw [if_neg (cI_0.mp h_49), if_neg (cI_0.mp h_60), if_neg (cI_0.mp h_72), if_neg (cI_0.mp h_84), if_neg (cI_0.mp h_96)] at hq
                       exact hq)
                · refine V_bipush (Y := mX1_wordHere) (pc := 99) dX1_wordHere_99 ⟨by decide, by decide⟩ ?_
                  refine V_goto (tgt := 105) (Y := mX1_wordHere) (pc := 101) dX1_wordHere_101 (by decide) ?_
                  refine V_iret (Y := mX1_wordHere) (pc := 105) dX1_wordHere_105 rfl (Nat.le_of_ble_eq_true rfl) (Nat.le_of_ble_eq_true rfl) ?_
                  first
                    | (rw [if_neg (cI_0.mp h_49), if_neg (cI_0.mp h_60), if_neg (cI_0.mp h_72), if_neg (cI_0.mp h_84), if_pos (Classical.byContradiction (fun q => h_96 (cI_0.mpr q)))] at hq
                       exact hq)
                    | (rw [if_neg (cI_0.mp h_49), if_neg (cI_0.mp h_60), if_neg (cI_0.mp h_72), if_neg (cI_0.mp h_84), if_neg (cI_0.mp h_96)] at hq
                       exact hq)
              · refine V_bipush (Y := mX1_wordHere) (pc := 87) dX1_wordHere_87 ⟨by decide, by decide⟩ ?_
                refine V_iret (Y := mX1_wordHere) (pc := 89) dX1_wordHere_89 rfl (Nat.le_of_ble_eq_true rfl) (Nat.le_of_ble_eq_true rfl) ?_
                rw [if_neg (cI_0.mp h_49), if_neg (cI_0.mp h_60), if_neg (cI_0.mp h_72), if_pos (Classical.byContradiction (fun q => h_84 (cI_0.mpr q)))] at hq
                exact hq
            · refine V_bipush (Y := mX1_wordHere) (pc := 75) dX1_wordHere_75 ⟨by decide, by decide⟩ ?_
              refine V_iret (Y := mX1_wordHere) (pc := 77) dX1_wordHere_77 rfl (Nat.le_of_ble_eq_true rfl) (Nat.le_of_ble_eq_true rfl) ?_
              rw [if_neg (cI_0.mp h_49), if_neg (cI_0.mp h_60), if_pos (Classical.byContradiction (fun q => h_72 (cI_0.mpr q)))] at hq
              exact hq
          · refine V_bipush (Y := mX1_wordHere) (pc := 63) dX1_wordHere_63 ⟨by decide, by decide⟩ ?_
            refine V_iret (Y := mX1_wordHere) (pc := 65) dX1_wordHere_65 rfl (Nat.le_of_ble_eq_true rfl) (Nat.le_of_ble_eq_true rfl) ?_
            rw [if_neg (cI_0.mp h_49), if_pos (Classical.byContradiction (fun q => h_60 (cI_0.mpr q)))] at hq
            exact hq
        · refine V_iconst (Y := mX1_wordHere) (pc := 52) dX1_wordHere_52 ?_
          refine V_iret (Y := mX1_wordHere) (pc := 53) dX1_wordHere_53 rfl (Nat.le_of_ble_eq_true rfl) (Nat.le_of_ble_eq_true rfl) ?_
          rw [if_pos (Classical.byContradiction (fun q => h_49 (cI_0.mpr q)))] at hq
          exact hq
      · refine V_aload_n (Y := mX1_wordHere) (pc := 30) dX1_wordHere_30 rfl ?_
        refine V_iload_n (Y := mX1_wordHere) (pc := 31) dX1_wordHere_31 rfl ?_
        refine V_iconst (Y := mX1_wordHere) (pc := 32) dX1_wordHere_32 ?_
        refine V_iadd (Y := mX1_wordHere) (pc := 33) dX1_wordHere_33 ?_
        apply V_putiW (Y := mX1_wordHere) (pc := 34) dX1_wordHere_34 fl_X1_27
        · assumption
        · exact Nat.le_of_ble_eq_true rfl
        intro w_34 h_34 f_34
        simp only [List.set_cons_zero, List.set_cons_succ] at h_34
        refine V_iinc (Y := mX1_wordHere) (pc := 37) dX1_wordHere_37 rfl rfl ?_
        refine V_goto (tgt := 5) (Y := mX1_wordHere) (pc := 40) dX1_wordHere_40 (by decide) ?_
        rw [adv_t ⟨by omega, h_27⟩] at he
        exact ih (p + 1) w_34 (by omega) (by omega) (by omega) he h_34 (fun j hj => (f_34 j hj).trans (hf j hj))
set_option maxRecDepth 100000 in
theorem c_wordHere (ho : w 79 = some (rO pl nx tk)) (hb : RowAt w 80 200 lb) (hby : byOK lb) (hpl : 0 ≤ pl ∧ pl ≤ 1000) (hnx : 0 ≤ nx ∧ nx ≤ lb.length) : Ctr mX1_wordHere (rm 5) [.ref 79] nn w (pI (fun z w' => z = wdOf lb pl (adv bL lb nx) ∧ w' 79 = some (rO pl (adv bL lb nx) tk) ∧ ∀ j, j ≠ 79 → w' j = w j) nn) := by
  refine Ctr_of (lv := [some (.ref 79), none]) (by decide +kernel) rfl rfl ?_
  refine V_aload_n (Y := mX1_wordHere) (pc := 0) dX1_wordHere_0 rfl ?_
  apply V_get (Y := mX1_wordHere) (pc := 1) dX1_wordHere_1 fl_X1_27
  · assumption
  · rfl
  refine V_istore_n (Y := mX1_wordHere) (pc := 4) dX1_wordHere_4 rfl ?_
  exact lp_wordHere hb hby hpl (fun w' q1 q2 => pI_of ⟨rfl, q1, q2⟩) (lb.length + 1) nx w (by omega) (by omega) (by omega) rfl ho (fun j hj => rfl)
set_option maxRecDepth 100000 in
theorem lp_numberHere {e : Int} (hb : RowAt w 80 200 lb) (hby : byOK lb) (hpl : 0 ≤ pl ∧ pl ≤ 1000) {Q : vPost} (hQ : ∀ w', w' 79 = some (rO pl e tk) → (∀ j, j ≠ 79 → w' j = w j) → Q (some (vI (if e = pl + 1 then 2 else 1))) nn w') : ∀ (m : Nat) (p : Int) (w' : vWd), 0 ≤ p → p ≤ lb.length → ((lb.length : Int) - p).toNat < m → adv bF1 lb p = e → w' 79 = some (rO pl p tk) → (∀ j, j ≠ 79 → w' j = w j) →
    V mX1_numberHere (rm 5) Q 5 [some (.ref 79), some (vI p)] [] nn w' 0 0 := by
  intro m
  induction m with
  | zero => intro p w' h1 h2 h3; omega
  | succ m ih =>
    intro p w' hp hp2 hm he ho hf
    have hb' := hb.keep (w' := w') (hf _ (by omega)) (hf _ (by omega))
    have hl := hb.len
    have hbk := hby p
    refine V_iload_n (Y := mX1_numberHere) (pc := 5) dX1_numberHere_5 rfl ?_
    refine V_aload_n (Y := mX1_numberHere) (pc := 6) dX1_numberHere_6 rfl ?_
    apply V_get (Y := mX1_numberHere) (pc := 7) dX1_numberHere_7 fl_X1_14
    · assumption
    · rfl
    apply V_vR (Y := mX1_numberHere) (pc := 10) dX1_numberHere_10 ok_X2_size ov_X2_size ln_X1_33 (c_Row_size hb')
    · exact hb'.obj
    · rfl
    · rfl
    · rfl
    · rfl
    · rfl
    
    refine V_icmp_ge (tgt := 43) (Y := mX1_numberHere) (pc := 13) dX1_numberHere_13 (by decide) ⟨by omega, by omega⟩ ⟨by omega, by omega⟩ (fun h_13 => ?_) (fun h_13 => ?_)
    · have hpe : p = e := by
        rw [← he]
        first
          | exact (adv_f (fun q => h_27 q.2)).symm
          | exact (adv_f (fun q => by omega)).symm
      subst hpe
      have hq := hQ w' ho hf
      refine V_aload_n (Y := mX1_numberHere) (pc := 43) dX1_numberHere_43 rfl ?_
      apply V_get (Y := mX1_numberHere) (pc := 44) dX1_numberHere_44 fl_X1_27
      · assumption
      · rfl
      refine V_aload_n (Y := mX1_numberHere) (pc := 47) dX1_numberHere_47 rfl ?_
      apply V_get (Y := mX1_numberHere) (pc := 48) dX1_numberHere_48 fl_X1_23
      · assumption
      · rfl
      refine V_iconst (Y := mX1_numberHere) (pc := 51) dX1_numberHere_51 ?_
      refine V_iadd (Y := mX1_numberHere) (pc := 52) dX1_numberHere_52 ?_
      refine V_icmp_ne (tgt := 60) (Y := mX1_numberHere) (pc := 53) dX1_numberHere_53 (by decide) ⟨by omega, by omega⟩ ⟨by omega, by omega⟩ (fun h_53 => ?_) (fun h_53 => ?_)
      · refine V_iconst (Y := mX1_numberHere) (pc := 60) dX1_numberHere_60 ?_
        refine V_iret (Y := mX1_numberHere) (pc := 61) dX1_numberHere_61 rfl (Nat.le_of_ble_eq_true rfl) (Nat.le_of_ble_eq_true rfl) ?_
        first
          | (rw [if_pos h_53] at hq; exact hq)
          | (rw [if_neg h_53] at hq; exact hq)
      · refine V_iconst (Y := mX1_numberHere) (pc := 56) dX1_numberHere_56 ?_
        refine V_goto (tgt := 61) (Y := mX1_numberHere) (pc := 57) dX1_numberHere_57 (by decide) ?_
        refine V_iret (Y := mX1_numberHere) (pc := 61) dX1_numberHere_61 rfl (Nat.le_of_ble_eq_true rfl) (Nat.le_of_ble_eq_true rfl) ?_
        first
          | (rw [if_pos h_53] at hq; exact hq)
          | (rw [if_neg h_53] at hq; exact hq)
    · refine V_aload_n (Y := mX1_numberHere) (pc := 16) dX1_numberHere_16 rfl ?_
      apply V_get (Y := mX1_numberHere) (pc := 17) dX1_numberHere_17 fl_X1_14
      · assumption
      · rfl
      refine V_iload_n (Y := mX1_numberHere) (pc := 20) dX1_numberHere_20 rfl ?_
      apply V_vR (Y := mX1_numberHere) (pc := 21) dX1_numberHere_21 ok_X2_at ov_X2_at ln_X1_61 (c_Row_at (i := p) hb' ⟨by omega, by omega⟩)
      · exact hb'.obj
      · rfl
      · rfl
      · rfl
      · rfl
      · rfl
      apply V_sR (Y := mX1_numberHere) (pc := 24) dX1_numberHere_24 ok_X1_isFigure os_X1_isFigure ln_X1_73 (c_isFigure (b := rAt lb p) ⟨by omega, by omega⟩)
      · rfl
      · rfl
      · rfl
      refine V_if_eqB (tgt := 43) (Y := mX1_numberHere) (pc := 27) dX1_numberHere_27 (by decide) (fun h_27 => ?_) (fun h_27 => ?_)
      · have hpe : p = e := by
          rw [← he]
          first
            | exact (adv_f (fun q => h_27 q.2)).symm
            | exact (adv_f (fun q => by omega)).symm
        subst hpe
        have hq := hQ w' ho hf
        refine V_aload_n (Y := mX1_numberHere) (pc := 43) dX1_numberHere_43 rfl ?_
        apply V_get (Y := mX1_numberHere) (pc := 44) dX1_numberHere_44 fl_X1_27
        · assumption
        · rfl
        refine V_aload_n (Y := mX1_numberHere) (pc := 47) dX1_numberHere_47 rfl ?_
        apply V_get (Y := mX1_numberHere) (pc := 48) dX1_numberHere_48 fl_X1_23
        · assumption
        · rfl
        refine V_iconst (Y := mX1_numberHere) (pc := 51) dX1_numberHere_51 ?_
        refine V_iadd (Y := mX1_numberHere) (pc := 52) dX1_numberHere_52 ?_
        refine V_icmp_ne (tgt := 60) (Y := mX1_numberHere) (pc := 53) dX1_numberHere_53 (by decide) ⟨by omega, by omega⟩ ⟨by omega, by omega⟩ (fun h_53 => ?_) (fun h_53 => ?_)
        · refine V_iconst (Y := mX1_numberHere) (pc := 60) dX1_numberHere_60 ?_
          refine V_iret (Y := mX1_numberHere) (pc := 61) dX1_numberHere_61 rfl (Nat.le_of_ble_eq_true rfl) (Nat.le_of_ble_eq_true rfl) ?_
          first
            | (rw [if_pos h_53] at hq; exact hq)
            | (rw [if_neg h_53] at hq; exact hq)
        · refine V_iconst (Y := mX1_numberHere) (pc := 56) dX1_numberHere_56 ?_
          refine V_goto (tgt := 61) (Y := mX1_numberHere) (pc := 57) dX1_numberHere_57 (by decide) ?_
          refine V_iret (Y := mX1_numberHere) (pc := 61) dX1_numberHere_61 rfl (Nat.le_of_ble_eq_true rfl) (Nat.le_of_ble_eq_true rfl) ?_
          first
            | (rw [if_pos h_53] at hq; exact hq)
            | (rw [if_neg h_53] at hq; exact hq)
      · refine V_aload_n (Y := mX1_numberHere) (pc := 30) dX1_numberHere_30 rfl ?_
        refine V_iload_n (Y := mX1_numberHere) (pc := 31) dX1_numberHere_31 rfl ?_
        refine V_iconst (Y := mX1_numberHere) (pc := 32) dX1_numberHere_32 ?_
        refine V_iadd (Y := mX1_numberHere) (pc := 33) dX1_numberHere_33 ?_
        apply V_putiW (Y := mX1_numberHere) (pc := 34) dX1_numberHere_34 fl_X1_27
        · assumption
        · exact Nat.le_of_ble_eq_true rfl
        intro w_34 h_34 f_34
        simp only [List.set_cons_zero, List.set_cons_succ] at h_34
        refine V_iinc (Y := mX1_numberHere) (pc := 37) dX1_numberHere_37 rfl rfl ?_
        refine V_goto (tgt := 5) (Y := mX1_numberHere) (pc := 40) dX1_numberHere_40 (by decide) ?_
        rw [adv_t ⟨by omega, h_27⟩] at he
        exact ih (p + 1) w_34 (by omega) (by omega) (by omega) he h_34 (fun j hj => (f_34 j hj).trans (hf j hj))
set_option maxRecDepth 100000 in
theorem c_numberHere (ho : w 79 = some (rO pl nx tk)) (hb : RowAt w 80 200 lb) (hby : byOK lb) (hpl : 0 ≤ pl ∧ pl ≤ 1000) (hnx : 0 ≤ nx ∧ nx ≤ lb.length) : Ctr mX1_numberHere (rm 5) [.ref 79] nn w (pI (fun z w' => z = (if adv bF1 lb nx = pl + 1 then 2 else 1) ∧ w' 79 = some (rO pl (adv bF1 lb nx) tk) ∧ ∀ j, j ≠ 79 → w' j = w j) nn) := by
  refine Ctr_of (lv := [some (.ref 79), none]) (by decide +kernel) rfl rfl ?_
  refine V_aload_n (Y := mX1_numberHere) (pc := 0) dX1_numberHere_0 rfl ?_
  apply V_get (Y := mX1_numberHere) (pc := 1) dX1_numberHere_1 fl_X1_27
  · assumption
  · rfl
  refine V_istore_n (Y := mX1_numberHere) (pc := 4) dX1_numberHere_4 rfl ?_
  exact lp_numberHere hb hby hpl (fun w' q1 q2 => pI_of ⟨rfl, q1, q2⟩) (lb.length + 1) nx w (by omega) (by omega) (by omega) rfl ho (fun j hj => rfl)
theorem wdOf_rng (l : List Int) (s e : Int) : 1 ≤ wdOf l s e ∧ wdOf l s e ≤ 9 := by
  unfold wdOf
  repeat' split
  all_goals omega
set_option maxRecDepth 100000 in
theorem lp_scan {e : Int} (hb : RowAt w 80 200 lb) (hby : byOK lb) {Q : vPost} (hQ : ∀ w', w' 79 = some (rO (scn2 lb e).1 (scn2 lb e).2.2 (scn2 lb e).2.1) → (∀ j, j ≠ 79 → w' j = w j) → Q none nn w') : ∀ (m : Nat) (p pl tk : Int) (w' : vWd), 0 ≤ p → p ≤ lb.length → ((lb.length : Int) - p).toNat < m → adv bSp lb p = e → w' 79 = some (rO pl p tk) → (∀ j, j ≠ 79 → w' j = w j) →
    V mX1_scan (rm 6) Q 5 [some (.ref 79), some (vI p)] [] nn w' 0 0 := by
  intro m
  induction m with
  | zero => intro p pl tk w' h1 h2 h3; omega
  | succ m ih =>
    intro p pl tk w' hp hp2 hm he ho hf
    have hb' := hb.keep (w' := w') (hf _ (by omega)) (hf _ (by omega))
    have hl := hb.len
    have hbk := hby p
    refine V_iload_n (Y := mX1_scan) (pc := 5) dX1_scan_5 rfl ?_
    refine V_aload_n (Y := mX1_scan) (pc := 6) dX1_scan_6 rfl ?_
    apply V_get (Y := mX1_scan) (pc := 7) dX1_scan_7 fl_X1_14
    · assumption
    · rfl
    apply V_vR (Y := mX1_scan) (pc := 10) dX1_scan_10 ok_X2_size ov_X2_size ln_X1_33 (c_Row_size hb')
    · exact hb'.obj
    · rfl
    · rfl
    · rfl
    · rfl
    · rfl
    
    refine V_icmp_ge (tgt := 42) (Y := mX1_scan) (pc := 13) dX1_scan_13 (by decide) ⟨by omega, by omega⟩ ⟨by omega, by omega⟩ (fun h_13 => ?_) (fun h_13 => ?_)
    · have hpe : p = e := by
        rw [← he]
        first
          | exact (adv_f (fun q => h_26 q.2)).symm
          | exact (adv_f (fun q => by omega)).symm
      subst hpe
      refine V_aload_n (Y := mX1_scan) (pc := 42) dX1_scan_42 rfl ?_
      refine V_aload_n (Y := mX1_scan) (pc := 43) dX1_scan_43 rfl ?_
      apply V_get (Y := mX1_scan) (pc := 44) dX1_scan_44 fl_X1_27
      · assumption
      · rfl
      apply V_putiW (Y := mX1_scan) (pc := 47) dX1_scan_47 fl_X1_23
      · assumption
      · exact Nat.le_of_ble_eq_true rfl
      intro w_47 h_47 f_47
      simp only [List.set_cons_zero, List.set_cons_succ] at h_47
      have b47 := hb'.keep (w' := w_47) (f_47 _ (by omega)) (f_47 _ (by omega))
      have f47 : ∀ j, j ≠ 79 → w_47 j = w j := fun j hj => (f_47 j hj).trans (hf j hj)
      refine V_aload_n (Y := mX1_scan) (pc := 50) dX1_scan_50 rfl ?_
      apply V_get (Y := mX1_scan) (pc := 51) dX1_scan_51 fl_X1_14
      · assumption
      · rfl
      refine V_aload_n (Y := mX1_scan) (pc := 54) dX1_scan_54 rfl ?_
      apply V_get (Y := mX1_scan) (pc := 55) dX1_scan_55 fl_X1_23
      · assumption
      · rfl
      apply V_vR (Y := mX1_scan) (pc := 58) dX1_scan_58 ok_X2_holds ov_X2_holds ln_X1_64 (c_Row_holds (i := p) b47 ⟨by omega, by omega⟩)
      · exact b47.obj
      · rfl
      · rfl
      · rfl
      · rfl
      · rfl
      refine V_if_neB (tgt := 70) (Y := mX1_scan) (pc := 61) dX1_scan_61 (by decide) (fun h_61 => ?_) (fun h_61 => ?_)
      · refine V_aload_n (Y := mX1_scan) (pc := 70) dX1_scan_70 rfl ?_
        apply V_get (Y := mX1_scan) (pc := 71) dX1_scan_71 fl_X1_14
        · assumption
        · rfl
        refine V_aload_n (Y := mX1_scan) (pc := 74) dX1_scan_74 rfl ?_
        apply V_get (Y := mX1_scan) (pc := 75) dX1_scan_75 fl_X1_23
        · assumption
        · rfl
        apply V_vR (Y := mX1_scan) (pc := 78) dX1_scan_78 ok_X2_at ov_X2_at ln_X1_61 (c_Row_at (i := p) b47 ⟨by omega, by omega⟩)
        · exact b47.obj
        · rfl
        · rfl
        · rfl
        · rfl
        · rfl
        refine V_istore_n (Y := mX1_scan) (pc := 81) dX1_scan_81 rfl ?_
        refine V_aload_n (Y := mX1_scan) (pc := 82) dX1_scan_82 rfl ?_
        refine V_aload_n (Y := mX1_scan) (pc := 83) dX1_scan_83 rfl ?_
        apply V_get (Y := mX1_scan) (pc := 84) dX1_scan_84 fl_X1_23
        · assumption
        · rfl
        refine V_iconst (Y := mX1_scan) (pc := 87) dX1_scan_87 ?_
        refine V_iadd (Y := mX1_scan) (pc := 88) dX1_scan_88 ?_
        apply V_putiW (Y := mX1_scan) (pc := 89) dX1_scan_89 fl_X1_27
        · assumption
        · exact Nat.le_of_ble_eq_true rfl
        intro w_89 h_89 f_89
        simp only [List.set_cons_zero, List.set_cons_succ] at h_89
        have b89 := b47.keep (w' := w_89) (f_89 _ (by omega)) (f_89 _ (by omega))
        have f89 : ∀ j, j ≠ 79 → w_89 j = w j := fun j hj => (f_89 j hj).trans (f47 j hj)
        refine V_iload_n (Y := mX1_scan) (pc := 92) dX1_scan_92 rfl ?_
        apply V_sR (Y := mX1_scan) (pc := 93) dX1_scan_93 ok_X1_isLetter os_X1_isLetter ln_X1_67 (c_isLetter (b := rAt lb p) ⟨by omega, by omega⟩)
        · rfl
        · rfl
        · rfl
        refine V_if_eqB (tgt := 110) (Y := mX1_scan) (pc := 96) dX1_scan_96 (by decide) (fun h_96 => ?_) (fun h_96 => ?_)
        · refine V_iload_n (Y := mX1_scan) (pc := 110) dX1_scan_110 rfl ?_
          apply V_sR (Y := mX1_scan) (pc := 111) dX1_scan_111 ok_X1_isFigure os_X1_isFigure ln_X1_73 (c_isFigure (b := rAt lb p) ⟨by omega, by omega⟩)
          · rfl
          · rfl
          · rfl
          refine V_if_eqB (tgt := 128) (Y := mX1_scan) (pc := 114) dX1_scan_114 (by decide) (fun h_114 => ?_) (fun h_114 => ?_)
          · refine V_iload_n (Y := mX1_scan) (pc := 128) dX1_scan_128 rfl ?_
            refine V_bipush (Y := mX1_scan) (pc := 129) dX1_scan_129 ⟨by decide, by decide⟩ ?_
            refine V_icmp_ne (tgt := 142) (Y := mX1_scan) (pc := 131) dX1_scan_131 (by decide) ⟨by omega, by omega⟩ ⟨by omega, by omega⟩ (fun h_131 => ?_) (fun h_131 => ?_)
            · refine V_aload_n (Y := mX1_scan) (pc := 142) dX1_scan_142 rfl ?_
              refine V_iload_n (Y := mX1_scan) (pc := 143) dX1_scan_143 rfl ?_
              refine V_bipush (Y := mX1_scan) (pc := 144) dX1_scan_144 ⟨by decide, by decide⟩ ?_
              refine V_icmp_ne (tgt := 153) (Y := mX1_scan) (pc := 146) dX1_scan_146 (by decide) ⟨by omega, by omega⟩ ⟨by omega, by omega⟩ (fun h_146 => ?_) (fun h_146 => ?_)
              · refine V_iconst (Y := mX1_scan) (pc := 153) dX1_scan_153 ?_
                apply V_putiW (Y := mX1_scan) (pc := 154) dX1_scan_154 fl_X1_30
                · assumption
                · exact Nat.le_of_ble_eq_true rfl
                intro w_154 h_154 f_154
                simp only [List.set_cons_zero, List.set_cons_succ] at h_154
                have f154 : ∀ j, j ≠ 79 → w_154 j = w j := fun j hj => (f_154 j hj).trans (f89 j hj)
                refine V_vret (Y := mX1_scan) (pc := 157) dX1_scan_157 rfl (Nat.le_of_ble_eq_true rfl) (Nat.le_of_ble_eq_true rfl) ?_
                first
                  | (refine hQ w_104 ?_ f104
                     rw [scn2, if_neg (by omega), if_pos h_96, ← hz]
                     exact h_104)
                  | (refine hQ w_122 ?_ f122
                     rw [scn2, if_neg (by omega), if_neg h_96, if_pos h_114]
                     subst hz
                     exact h_122)
                  | (refine hQ w_136 ?_ f136
                     rw [scn2, if_neg (by omega), if_neg h_96, if_neg h_114, if_pos h_131]
                     exact h_136)
                  | (refine hQ w_154 ?_ f154
                     rw [scn2, if_neg (by omega), if_neg h_96, if_neg h_114, if_neg h_131, if_pos h_146]
                     exact h_154)
                  | (refine hQ w_154 ?_ f154
                     rw [scn2, if_neg (by omega), if_neg h_96, if_neg h_114, if_neg h_131, if_neg h_146]
                     exact h_154)
              · refine V_iconst (Y := mX1_scan) (pc := 149) dX1_scan_149 ?_
                refine V_goto (tgt := 154) (Y := mX1_scan) (pc := 150) dX1_scan_150 (by decide) ?_
                apply V_putiW (Y := mX1_scan) (pc := 154) dX1_scan_154 fl_X1_30
                · assumption
                · exact Nat.le_of_ble_eq_true rfl
                intro w_154 h_154 f_154
                simp only [List.set_cons_zero, List.set_cons_succ] at h_154
                have f154 : ∀ j, j ≠ 79 → w_154 j = w j := fun j hj => (f_154 j hj).trans (f89 j hj)
                refine V_vret (Y := mX1_scan) (pc := 157) dX1_scan_157 rfl (Nat.le_of_ble_eq_true rfl) (Nat.le_of_ble_eq_true rfl) ?_
                first
                  | (refine hQ w_104 ?_ f104
                     rw [scn2, if_neg (by omega), if_pos h_96, ← hz]
                     exact h_104)
                  | (refine hQ w_122 ?_ f122
                     rw [scn2, if_neg (by omega), if_neg h_96, if_pos h_114]
                     subst hz
                     exact h_122)
                  | (refine hQ w_136 ?_ f136
                     rw [scn2, if_neg (by omega), if_neg h_96, if_neg h_114, if_pos h_131]
                     exact h_136)
                  | (refine hQ w_154 ?_ f154
                     rw [scn2, if_neg (by omega), if_neg h_96, if_neg h_114, if_neg h_131, if_pos h_146]
                     exact h_154)
                  | (refine hQ w_154 ?_ f154
                     rw [scn2, if_neg (by omega), if_neg h_96, if_neg h_114, if_neg h_131, if_neg h_146]
                     exact h_154)
            · refine V_aload_n (Y := mX1_scan) (pc := 134) dX1_scan_134 rfl ?_
              refine V_iconst (Y := mX1_scan) (pc := 135) dX1_scan_135 ?_
              apply V_putiW (Y := mX1_scan) (pc := 136) dX1_scan_136 fl_X1_30
              · assumption
              · exact Nat.le_of_ble_eq_true rfl
              intro w_136 h_136 f_136
              simp only [List.set_cons_zero, List.set_cons_succ] at h_136
              have f136 : ∀ j, j ≠ 79 → w_136 j = w j := fun j hj => (f_136 j hj).trans (f89 j hj)
              refine V_goto (tgt := 157) (Y := mX1_scan) (pc := 139) dX1_scan_139 (by decide) ?_
              refine V_vret (Y := mX1_scan) (pc := 157) dX1_scan_157 rfl (Nat.le_of_ble_eq_true rfl) (Nat.le_of_ble_eq_true rfl) ?_
              first
                | (refine hQ w_104 ?_ f104
                   rw [scn2, if_neg (by omega), if_pos h_96, ← hz]
                   exact h_104)
                | (refine hQ w_122 ?_ f122
                   rw [scn2, if_neg (by omega), if_neg h_96, if_pos h_114]
                   subst hz
                   exact h_122)
                | (refine hQ w_136 ?_ f136
                   rw [scn2, if_neg (by omega), if_neg h_96, if_neg h_114, if_pos h_131]
                   exact h_136)
                | (refine hQ w_154 ?_ f154
                   rw [scn2, if_neg (by omega), if_neg h_96, if_neg h_114, if_neg h_131, if_pos h_146]
                   exact h_154)
                | (refine hQ w_154 ?_ f154
                   rw [scn2, if_neg (by omega), if_neg h_96, if_neg h_114, if_neg h_131, if_neg h_146]
                   exact h_154)
          · refine V_aload_n (Y := mX1_scan) (pc := 117) dX1_scan_117 rfl ?_
            refine V_aload_n (Y := mX1_scan) (pc := 118) dX1_scan_118 rfl ?_
            apply V_vI (Y := mX1_scan) (pc := 119) dX1_scan_119 ok_X1_numberHere ov_X1_numberHere ln_X1_76 (c_numberHere h_89 b89 hby ⟨by omega, by omega⟩ ⟨by omega, by omega⟩)
            · assumption
            · rfl
            · rfl
            · rfl
            · rfl
            · rfl
            rintro z_119 w_119 ⟨hz, g1, k1⟩
            apply V_putiW (Y := mX1_scan) (pc := 122) dX1_scan_122 fl_X1_30
            · exact g1
            · exact Nat.le_of_ble_eq_true rfl
            intro w_122 h_122 f_122
            simp only [List.set_cons_zero, List.set_cons_succ] at h_122
            have f122 : ∀ j, j ≠ 79 → w_122 j = w j := fun j hj => (f_122 j hj).trans ((k1 j hj).trans (f89 j hj))
            refine V_goto (tgt := 157) (Y := mX1_scan) (pc := 125) dX1_scan_125 (by decide) ?_
            refine V_vret (Y := mX1_scan) (pc := 157) dX1_scan_157 rfl (Nat.le_of_ble_eq_true rfl) (Nat.le_of_ble_eq_true rfl) ?_
            first
              | (refine hQ w_104 ?_ f104
                 rw [scn2, if_neg (by omega), if_pos h_96, ← hz]
                 exact h_104)
              | (refine hQ w_122 ?_ f122
                 rw [scn2, if_neg (by omega), if_neg h_96, if_pos h_114]
                 subst hz
                 exact h_122)
              | (refine hQ w_136 ?_ f136
                 rw [scn2, if_neg (by omega), if_neg h_96, if_neg h_114, if_pos h_131]
                 exact h_136)
              | (refine hQ w_154 ?_ f154
                 rw [scn2, if_neg (by omega), if_neg h_96, if_neg h_114, if_neg h_131, if_pos h_146]
                 exact h_154)
              | (refine hQ w_154 ?_ f154
                 rw [scn2, if_neg (by omega), if_neg h_96, if_neg h_114, if_neg h_131, if_neg h_146]
                 exact h_154)
        · refine V_aload_n (Y := mX1_scan) (pc := 99) dX1_scan_99 rfl ?_
          refine V_aload_n (Y := mX1_scan) (pc := 100) dX1_scan_100 rfl ?_
          apply V_vI (Y := mX1_scan) (pc := 101) dX1_scan_101 ok_X1_wordHere ov_X1_wordHere ln_X1_70 (c_wordHere h_89 b89 hby ⟨by omega, by omega⟩ ⟨by omega, by omega⟩)
          · assumption
          · rfl
          · rfl
          · rfl
          · rfl
          · rfl
          rintro z_101 w_101 ⟨hz, g1, k1⟩
          apply V_putiW (Y := mX1_scan) (pc := 104) dX1_scan_104 fl_X1_30
          · exact g1
          · exact Nat.le_of_ble_eq_true rfl
          intro w_104 h_104 f_104
          simp only [List.set_cons_zero, List.set_cons_succ] at h_104
          have f104 : ∀ j, j ≠ 79 → w_104 j = w j := fun j hj => (f_104 j hj).trans ((k1 j hj).trans (f89 j hj))
          refine V_goto (tgt := 157) (Y := mX1_scan) (pc := 107) dX1_scan_107 (by decide) ?_
          refine V_vret (Y := mX1_scan) (pc := 157) dX1_scan_157 rfl (Nat.le_of_ble_eq_true rfl) (Nat.le_of_ble_eq_true rfl) ?_
          first
            | (refine hQ w_104 ?_ f104
               rw [scn2, if_neg (by omega), if_pos h_96, ← hz]
               exact h_104)
            | (refine hQ w_122 ?_ f122
               rw [scn2, if_neg (by omega), if_neg h_96, if_pos h_114]
               subst hz
               exact h_122)
            | (refine hQ w_136 ?_ f136
               rw [scn2, if_neg (by omega), if_neg h_96, if_neg h_114, if_pos h_131]
               exact h_136)
            | (refine hQ w_154 ?_ f154
               rw [scn2, if_neg (by omega), if_neg h_96, if_neg h_114, if_neg h_131, if_pos h_146]
               exact h_154)
            | (refine hQ w_154 ?_ f154
               rw [scn2, if_neg (by omega), if_neg h_96, if_neg h_114, if_neg h_131, if_neg h_146]
               exact h_154)
      · refine V_aload_n (Y := mX1_scan) (pc := 64) dX1_scan_64 rfl ?_
        refine V_iconst (Y := mX1_scan) (pc := 65) dX1_scan_65 ?_
        apply V_putiW (Y := mX1_scan) (pc := 66) dX1_scan_66 fl_X1_30
        · assumption
        · exact Nat.le_of_ble_eq_true rfl
        intro w_66 h_66 f_66
        simp only [List.set_cons_zero, List.set_cons_succ] at h_66
        refine V_vret (Y := mX1_scan) (pc := 69) dX1_scan_69 rfl (Nat.le_of_ble_eq_true rfl) (Nat.le_of_ble_eq_true rfl) ?_
        refine hQ w_66 ?_ (fun j hj => (f_66 j hj).trans (f47 j hj))
        rw [scn2, if_pos (by omega)]
        exact h_66
    · refine V_aload_n (Y := mX1_scan) (pc := 16) dX1_scan_16 rfl ?_
      apply V_get (Y := mX1_scan) (pc := 17) dX1_scan_17 fl_X1_14
      · assumption
      · rfl
      refine V_iload_n (Y := mX1_scan) (pc := 20) dX1_scan_20 rfl ?_
      apply V_vR (Y := mX1_scan) (pc := 21) dX1_scan_21 ok_X2_at ov_X2_at ln_X1_61 (c_Row_at (i := p) hb' ⟨by omega, by omega⟩)
      · exact hb'.obj
      · rfl
      · rfl
      · rfl
      · rfl
      · rfl
      refine V_bipush (Y := mX1_scan) (pc := 24) dX1_scan_24 ⟨by decide, by decide⟩ ?_
      refine V_icmp_ne (tgt := 42) (Y := mX1_scan) (pc := 26) dX1_scan_26 (by decide) ⟨by omega, by omega⟩ ⟨by omega, by omega⟩ (fun h_26 => ?_) (fun h_26 => ?_)
      · have hpe : p = e := by
          rw [← he]
          first
            | exact (adv_f (fun q => h_26 q.2)).symm
            | exact (adv_f (fun q => by omega)).symm
        subst hpe
        refine V_aload_n (Y := mX1_scan) (pc := 42) dX1_scan_42 rfl ?_
        refine V_aload_n (Y := mX1_scan) (pc := 43) dX1_scan_43 rfl ?_
        apply V_get (Y := mX1_scan) (pc := 44) dX1_scan_44 fl_X1_27
        · assumption
        · rfl
        apply V_putiW (Y := mX1_scan) (pc := 47) dX1_scan_47 fl_X1_23
        · assumption
        · exact Nat.le_of_ble_eq_true rfl
        intro w_47 h_47 f_47
        simp only [List.set_cons_zero, List.set_cons_succ] at h_47
        have b47 := hb'.keep (w' := w_47) (f_47 _ (by omega)) (f_47 _ (by omega))
        have f47 : ∀ j, j ≠ 79 → w_47 j = w j := fun j hj => (f_47 j hj).trans (hf j hj)
        refine V_aload_n (Y := mX1_scan) (pc := 50) dX1_scan_50 rfl ?_
        apply V_get (Y := mX1_scan) (pc := 51) dX1_scan_51 fl_X1_14
        · assumption
        · rfl
        refine V_aload_n (Y := mX1_scan) (pc := 54) dX1_scan_54 rfl ?_
        apply V_get (Y := mX1_scan) (pc := 55) dX1_scan_55 fl_X1_23
        · assumption
        · rfl
        apply V_vR (Y := mX1_scan) (pc := 58) dX1_scan_58 ok_X2_holds ov_X2_holds ln_X1_64 (c_Row_holds (i := p) b47 ⟨by omega, by omega⟩)
        · exact b47.obj
        · rfl
        · rfl
        · rfl
        · rfl
        · rfl
        refine V_if_neB (tgt := 70) (Y := mX1_scan) (pc := 61) dX1_scan_61 (by decide) (fun h_61 => ?_) (fun h_61 => ?_)
        · refine V_aload_n (Y := mX1_scan) (pc := 70) dX1_scan_70 rfl ?_
          apply V_get (Y := mX1_scan) (pc := 71) dX1_scan_71 fl_X1_14
          · assumption
          · rfl
          refine V_aload_n (Y := mX1_scan) (pc := 74) dX1_scan_74 rfl ?_
          apply V_get (Y := mX1_scan) (pc := 75) dX1_scan_75 fl_X1_23
          · assumption
          · rfl
          apply V_vR (Y := mX1_scan) (pc := 78) dX1_scan_78 ok_X2_at ov_X2_at ln_X1_61 (c_Row_at (i := p) b47 ⟨by omega, by omega⟩)
          · exact b47.obj
          · rfl
          · rfl
          · rfl
          · rfl
          · rfl
          refine V_istore_n (Y := mX1_scan) (pc := 81) dX1_scan_81 rfl ?_
          refine V_aload_n (Y := mX1_scan) (pc := 82) dX1_scan_82 rfl ?_
          refine V_aload_n (Y := mX1_scan) (pc := 83) dX1_scan_83 rfl ?_
          apply V_get (Y := mX1_scan) (pc := 84) dX1_scan_84 fl_X1_23
          · assumption
          · rfl
          refine V_iconst (Y := mX1_scan) (pc := 87) dX1_scan_87 ?_
          refine V_iadd (Y := mX1_scan) (pc := 88) dX1_scan_88 ?_
          apply V_putiW (Y := mX1_scan) (pc := 89) dX1_scan_89 fl_X1_27
          · assumption
          · exact Nat.le_of_ble_eq_true rfl
          intro w_89 h_89 f_89
          simp only [List.set_cons_zero, List.set_cons_succ] at h_89
          have b89 := b47.keep (w' := w_89) (f_89 _ (by omega)) (f_89 _ (by omega))
          have f89 : ∀ j, j ≠ 79 → w_89 j = w j := fun j hj => (f_89 j hj).trans (f47 j hj)
          refine V_iload_n (Y := mX1_scan) (pc := 92) dX1_scan_92 rfl ?_
          apply V_sR (Y := mX1_scan) (pc := 93) dX1_scan_93 ok_X1_isLetter os_X1_isLetter ln_X1_67 (c_isLetter (b := rAt lb p) ⟨by omega, by omega⟩)
          · rfl
          · rfl
          · rfl
          refine V_if_eqB (tgt := 110) (Y := mX1_scan) (pc := 96) dX1_scan_96 (by decide) (fun h_96 => ?_) (fun h_96 => ?_)
          · refine V_iload_n (Y := mX1_scan) (pc := 110) dX1_scan_110 rfl ?_
            apply V_sR (Y := mX1_scan) (pc := 111) dX1_scan_111 ok_X1_isFigure os_X1_isFigure ln_X1_73 (c_isFigure (b := rAt lb p) ⟨by omega, by omega⟩)
            · rfl
            · rfl
            · rfl
            refine V_if_eqB (tgt := 128) (Y := mX1_scan) (pc := 114) dX1_scan_114 (by decide) (fun h_114 => ?_) (fun h_114 => ?_)
            · refine V_iload_n (Y := mX1_scan) (pc := 128) dX1_scan_128 rfl ?_
              refine V_bipush (Y := mX1_scan) (pc := 129) dX1_scan_129 ⟨by decide, by decide⟩ ?_
              refine V_icmp_ne (tgt := 142) (Y := mX1_scan) (pc := 131) dX1_scan_131 (by decide) ⟨by omega, by omega⟩ ⟨by omega, by omega⟩ (fun h_131 => ?_) (fun h_131 => ?_)
              · refine V_aload_n (Y := mX1_scan) (pc := 142) dX1_scan_142 rfl ?_
                refine V_iload_n (Y := mX1_scan) (pc := 143) dX1_scan_143 rfl ?_
                refine V_bipush (Y := mX1_scan) (pc := 144) dX1_scan_144 ⟨by decide, by decide⟩ ?_
                refine V_icmp_ne (tgt := 153) (Y := mX1_scan) (pc := 146) dX1_scan_146 (by decide) ⟨by omega, by omega⟩ ⟨by omega, by omega⟩ (fun h_146 => ?_) (fun h_146 => ?_)
                · refine V_iconst (Y := mX1_scan) (pc := 153) dX1_scan_153 ?_
                  apply V_putiW (Y := mX1_scan) (pc := 154) dX1_scan_154 fl_X1_30
                  · assumption
                  · exact Nat.le_of_ble_eq_true rfl
                  intro w_154 h_154 f_154
                  simp only [List.set_cons_zero, List.set_cons_succ] at h_154
                  have f154 : ∀ j, j ≠ 79 → w_154 j = w j := fun j hj => (f_154 j hj).trans (f89 j hj)
                  refine V_vret (Y := mX1_scan) (pc := 157) dX1_scan_157 rfl (Nat.le_of_ble_eq_true rfl) (Nat.le_of_ble_eq_true rfl) ?_
                  first
                    | (refine hQ w_104 ?_ f104
                       rw [scn2, if_neg (by omega), if_pos h_96, ← hz]
                       exact h_104)
                    | (refine hQ w_122 ?_ f122
                       rw [scn2, if_neg (by omega), if_neg h_96, if_pos h_114]
                       subst hz
                       exact h_122)
                    | (refine hQ w_136 ?_ f136
                       rw [scn2, if_neg (by omega), if_neg h_96, if_neg h_114, if_pos h_131]
                       exact h_136)
                    | (refine hQ w_154 ?_ f154
                       rw [scn2, if_neg (by omega), if_neg h_96, if_neg h_114, if_neg h_131, if_pos h_146]
                       exact h_154)
                    | (refine hQ w_154 ?_ f154
                       rw [scn2, if_neg (by omega), if_neg h_96, if_neg h_114, if_neg h_131, if_neg h_146]
                       exact h_154)
                · refine V_iconst (Y := mX1_scan) (pc := 149) dX1_scan_149 ?_
                  refine V_goto (tgt := 154) (Y := mX1_scan) (pc := 150) dX1_scan_150 (by decide) ?_
                  apply V_putiW (Y := mX1_scan) (pc := 154) dX1_scan_154 fl_X1_30
                  · assumption
                  · exact Nat.le_of_ble_eq_true rfl
                  intro w_154 h_154 f_154
                  simp only [List.set_cons_zero, List.set_cons_succ] at h_154
                  have f154 : ∀ j, j ≠ 79 → w_154 j = w j := fun j hj => (f_154 j hj).trans (f89 j hj)
                  refine V_vret (Y := mX1_scan) (pc := 157) dX1_scan_157 rfl (Nat.le_of_ble_eq_true rfl) (Nat.le_of_ble_eq_true rfl) ?_
                  first
                    | (refine hQ w_104 ?_ f104
                       rw [scn2, if_neg (by omega), if_pos h_96, ← hz]
                       exact h_104)
                    | (refine hQ w_122 ?_ f122
                       rw [scn2, if_neg (by omega), if_neg h_96, if_pos h_114]
                       subst hz
                       exact h_122)
                    | (refine hQ w_136 ?_ f136
                       rw [scn2, if_neg (by omega), if_neg h_96, if_neg h_114, if_pos h_131]
                       exact h_136)
                    | (refine hQ w_154 ?_ f154
                       rw [scn2, if_neg (by omega), if_neg h_96, if_neg h_114, if_neg h_131, if_pos h_146]
                       exact h_154)
                    | (refine hQ w_154 ?_ f154
                       rw [scn2, if_neg (by omega), if_neg h_96, if_neg h_114, if_neg h_131, if_neg h_146]
                       exact h_154)
              · refine V_aload_n (Y := mX1_scan) (pc := 134) dX1_scan_134 rfl ?_
                refine V_iconst (Y := mX1_scan) (pc := 135) dX1_scan_135 ?_
                apply V_putiW (Y := mX1_scan) (pc := 136) dX1_scan_136 fl_X1_30
                · assumption
                · exact Nat.le_of_ble_eq_true rfl
                intro w_136 h_136 f_136
                simp only [List.set_cons_zero, List.set_cons_succ] at h_136
                have f136 : ∀ j, j ≠ 79 → w_136 j = w j := fun j hj => (f_136 j hj).trans (f89 j hj)
                refine V_goto (tgt := 157) (Y := mX1_scan) (pc := 139) dX1_scan_139 (by decide) ?_
                refine V_vret (Y := mX1_scan) (pc := 157) dX1_scan_157 rfl (Nat.le_of_ble_eq_true rfl) (Nat.le_of_ble_eq_true rfl) ?_
                first
                  | (refine hQ w_104 ?_ f104
                     rw [scn2, if_neg (by omega), if_pos h_96, ← hz]
                     exact h_104)
                  | (refine hQ w_122 ?_ f122
                     rw [scn2, if_neg (by omega), if_neg h_96, if_pos h_114]
                     subst hz
                     exact h_122)
                  | (refine hQ w_136 ?_ f136
                     rw [scn2, if_neg (by omega), if_neg h_96, if_neg h_114, if_pos h_131]
                     exact h_136)
                  | (refine hQ w_154 ?_ f154
                     rw [scn2, if_neg (by omega), if_neg h_96, if_neg h_114, if_neg h_131, if_pos h_146]
                     exact h_154)
                  | (refine hQ w_154 ?_ f154
                     rw [scn2, if_neg (by omega), if_neg h_96, if_neg h_114, if_neg h_131, if_neg h_146]
                     exact h_154)
            · refine V_aload_n (Y := mX1_scan) (pc := 117) dX1_scan_117 rfl ?_
              refine V_aload_n (Y := mX1_scan) (pc := 118) dX1_scan_118 rfl ?_
              apply V_vI (Y := mX1_scan) (pc := 119) dX1_scan_119 ok_X1_numberHere ov_X1_numberHere ln_X1_76 (c_numberHere h_89 b89 hby ⟨by omega, by omega⟩ ⟨by omega, by omega⟩)
              · assumption
              · rfl
              · rfl
              · rfl
              · rfl
              · rfl
              rintro z_119 w_119 ⟨hz, g1, k1⟩
              apply V_putiW (Y := mX1_scan) (pc := 122) dX1_scan_122 fl_X1_30
              · exact g1
              · exact Nat.le_of_ble_eq_true rfl
              intro w_122 h_122 f_122
              simp only [List.set_cons_zero, List.set_cons_succ] at h_122
              have f122 : ∀ j, j ≠ 79 → w_122 j = w j := fun j hj => (f_122 j hj).trans ((k1 j hj).trans (f89 j hj))
              refine V_goto (tgt := 157) (Y := mX1_scan) (pc := 125) dX1_scan_125 (by decide) ?_
              refine V_vret (Y := mX1_scan) (pc := 157) dX1_scan_157 rfl (Nat.le_of_ble_eq_true rfl) (Nat.le_of_ble_eq_true rfl) ?_
              first
                | (refine hQ w_104 ?_ f104
                   rw [scn2, if_neg (by omega), if_pos h_96, ← hz]
                   exact h_104)
                | (refine hQ w_122 ?_ f122
                   rw [scn2, if_neg (by omega), if_neg h_96, if_pos h_114]
                   subst hz
                   exact h_122)
                | (refine hQ w_136 ?_ f136
                   rw [scn2, if_neg (by omega), if_neg h_96, if_neg h_114, if_pos h_131]
                   exact h_136)
                | (refine hQ w_154 ?_ f154
                   rw [scn2, if_neg (by omega), if_neg h_96, if_neg h_114, if_neg h_131, if_pos h_146]
                   exact h_154)
                | (refine hQ w_154 ?_ f154
                   rw [scn2, if_neg (by omega), if_neg h_96, if_neg h_114, if_neg h_131, if_neg h_146]
                   exact h_154)
          · refine V_aload_n (Y := mX1_scan) (pc := 99) dX1_scan_99 rfl ?_
            refine V_aload_n (Y := mX1_scan) (pc := 100) dX1_scan_100 rfl ?_
            apply V_vI (Y := mX1_scan) (pc := 101) dX1_scan_101 ok_X1_wordHere ov_X1_wordHere ln_X1_70 (c_wordHere h_89 b89 hby ⟨by omega, by omega⟩ ⟨by omega, by omega⟩)
            · assumption
            · rfl
            · rfl
            · rfl
            · rfl
            · rfl
            rintro z_101 w_101 ⟨hz, g1, k1⟩
            apply V_putiW (Y := mX1_scan) (pc := 104) dX1_scan_104 fl_X1_30
            · exact g1
            · exact Nat.le_of_ble_eq_true rfl
            intro w_104 h_104 f_104
            simp only [List.set_cons_zero, List.set_cons_succ] at h_104
            have f104 : ∀ j, j ≠ 79 → w_104 j = w j := fun j hj => (f_104 j hj).trans ((k1 j hj).trans (f89 j hj))
            refine V_goto (tgt := 157) (Y := mX1_scan) (pc := 107) dX1_scan_107 (by decide) ?_
            refine V_vret (Y := mX1_scan) (pc := 157) dX1_scan_157 rfl (Nat.le_of_ble_eq_true rfl) (Nat.le_of_ble_eq_true rfl) ?_
            first
              | (refine hQ w_104 ?_ f104
                 rw [scn2, if_neg (by omega), if_pos h_96, ← hz]
                 exact h_104)
              | (refine hQ w_122 ?_ f122
                 rw [scn2, if_neg (by omega), if_neg h_96, if_pos h_114]
                 subst hz
                 exact h_122)
              | (refine hQ w_136 ?_ f136
                 rw [scn2, if_neg (by omega), if_neg h_96, if_neg h_114, if_pos h_131]
                 exact h_136)
              | (refine hQ w_154 ?_ f154
                 rw [scn2, if_neg (by omega), if_neg h_96, if_neg h_114, if_neg h_131, if_pos h_146]
                 exact h_154)
              | (refine hQ w_154 ?_ f154
                 rw [scn2, if_neg (by omega), if_neg h_96, if_neg h_114, if_neg h_131, if_neg h_146]
                 exact h_154)
        · refine V_aload_n (Y := mX1_scan) (pc := 64) dX1_scan_64 rfl ?_
          refine V_iconst (Y := mX1_scan) (pc := 65) dX1_scan_65 ?_
          apply V_putiW (Y := mX1_scan) (pc := 66) dX1_scan_66 fl_X1_30
          · assumption
          · exact Nat.le_of_ble_eq_true rfl
          intro w_66 h_66 f_66
          simp only [List.set_cons_zero, List.set_cons_succ] at h_66
          refine V_vret (Y := mX1_scan) (pc := 69) dX1_scan_69 rfl (Nat.le_of_ble_eq_true rfl) (Nat.le_of_ble_eq_true rfl) ?_
          refine hQ w_66 ?_ (fun j hj => (f_66 j hj).trans (f47 j hj))
          rw [scn2, if_pos (by omega)]
          exact h_66
      · refine V_aload_n (Y := mX1_scan) (pc := 29) dX1_scan_29 rfl ?_
        refine V_iload_n (Y := mX1_scan) (pc := 30) dX1_scan_30 rfl ?_
        refine V_iconst (Y := mX1_scan) (pc := 31) dX1_scan_31 ?_
        refine V_iadd (Y := mX1_scan) (pc := 32) dX1_scan_32 ?_
        apply V_putiW (Y := mX1_scan) (pc := 33) dX1_scan_33 fl_X1_27
        · assumption
        · exact Nat.le_of_ble_eq_true rfl
        intro w_33 h_33 f_33
        simp only [List.set_cons_zero, List.set_cons_succ] at h_33
        refine V_iinc (Y := mX1_scan) (pc := 36) dX1_scan_36 rfl rfl ?_
        refine V_goto (tgt := 5) (Y := mX1_scan) (pc := 39) dX1_scan_39 (by decide) ?_
        rw [adv_t ⟨by omega, h_26⟩] at he
        exact ih (p + 1) pl tk w_33 (by omega) (by omega) (by omega) he h_33 (fun j hj => (f_33 j hj).trans (hf j hj))
set_option maxRecDepth 100000 in
theorem c_scan (ho : w 79 = some (rO pl nx tk)) (hb : RowAt w 80 200 lb) (hby : byOK lb) (hnx : 0 ≤ nx ∧ nx ≤ lb.length) : Ctr mX1_scan (rm 6) [.ref 79] nn w (pV (fun w' => w' 79 = some (rO (scn lb nx).1 (scn lb nx).2.2 (scn lb nx).2.1) ∧ ∀ j, j ≠ 79 → w' j = w j) nn) := by
  refine Ctr_of (lv := [some (.ref 79), none]) (by decide +kernel) rfl rfl ?_
  refine V_aload_n (Y := mX1_scan) (pc := 0) dX1_scan_0 rfl ?_
  apply V_get (Y := mX1_scan) (pc := 1) dX1_scan_1 fl_X1_27
  · assumption
  · rfl
  refine V_istore_n (Y := mX1_scan) (pc := 4) dX1_scan_4 rfl ?_
  exact lp_scan hb hby (fun w' q1 q2 => pV_of ⟨q1, q2⟩) (lb.length + 1) nx pl tk w (by omega) (by omega) (by omega) rfl ho (fun j hj => rfl)
end RD
