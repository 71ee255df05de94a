/-! ===== DrawerWallModel: what tells of a wall ===== -/
def RfAt (w : vWd) (rb rn rf : Int) : Prop := ∃ r : Nat → Int, w 104 = some (arI 3 r) ∧ r 0 = rb ∧ r 1 = rn ∧ r 2 = rf
def MK (w : vWd) (qt : Int) (S : vSt) (rb rn rf : Int) : Prop := (∃ ty a0 sp tk vl mn fd sv : Int, w 99 = some (mO qt ty a0 sp tk vl mn fd sv)) ∧ (∃ f : Nat → Int, w 100 = some (arI 98 f) ∧ BkOf f S.1 S.2.1 S.2.2.1 S.2.2.2.1 S.2.2.2.2.1 S.2.2.2.2.2) ∧ RfAt w rb rn rf ∧ (qt = 0 ∨ qt = 1)
def frB (w w' : vWd) : Prop := ∀ j, j ≠ 100 → j ≠ 104 → w' j = w j
def tq (qt k z r : Int) : Int := if z = k ∧ qt = 0 then r + 1 else r
theorem tq_ne {qt k z r : Int} (h : z ≠ k) : tq qt k z r = r := if_neg (fun q => h q.1)
theorem tq_0 (k z r : Int) : tq 0 k z r = tl1 k z r := by unfold tq tl1; simp
theorem frB.refl (w : vWd) : frB w w := fun _ _ _ => rfl
theorem RfAt.keep {w w' : vWd} {rb rn rf : Int} (h : RfAt w rb rn rf) (h1 : w' 104 = w 104) : RfAt w' rb rn rf := by
  obtain ⟨r, a, b⟩ := h
  exact ⟨r, h1.trans a, b⟩
theorem MK.ms {w : vWd} {qt : Int} {n now : Int} {ca po fo : Nat} {rs : Nat → List Int} {rb rn rf : Int} (h : MK w qt (n, now, ca, po, fo, rs) rb rn rf) : MS w n now ca po fo rs := by
  obtain ⟨⟨ty, a0, sp, tk, vl, mn, fd, sv, ho⟩, ⟨f, hb, hB⟩, -⟩ := h
  exact ⟨f, ⟨qt, ty, a0, sp, tk, vl, mn, fd, sv, ho⟩, hb, hB⟩
theorem MK.tq0 {w : vWd} {qt : Int} {S : vSt} {rb rn rf z : Int} (h : MK w qt S rb rn rf) (hz : -1 ≤ z) : MK w qt S (tq qt (-2) z rb) (tq qt (-3) z rn) (tq qt (-4) z rf) := by
  rw [tq_ne (by omega), tq_ne (by omega), tq_ne (by omega)]; exact h
theorem rf_up {r : Nat → Int} {s qt e : Int} (hs : s = 0 ∨ s = 1 ∨ s = 2) (he : (qt = 0 ∧ e = 1) ∨ (qt = 1 ∧ e = 0)) : va_up r s.toNat (r s.toNat + e) 0 = (if s = 0 ∧ qt = 0 then r 0 + 1 else r 0) ∧ va_up r s.toNat (r s.toNat + e) 1 = (if s = 1 ∧ qt = 0 then r 1 + 1 else r 1) ∧ va_up r s.toNat (r s.toNat + e) 2 = (if s = 2 ∧ qt = 0 then r 2 + 1 else r 2) := by
  rcases hs with rfl | rfl | rfl <;> rcases he with ⟨rfl, rfl⟩ | ⟨rfl, rfl⟩ <;> simp [va_up]
section MOD
variable {nn : Nat} {w : vWd} {n now : Int} {ca po fo : Nat} {rs : Nat → List Int} {qt ty a0 sp tk vl mn fd sv : Int} {rb rn rf : Int}
set_option maxRecDepth 100000 in
theorem cm_refuses {s v : Int} (ho : w 99 = some (mO qt ty a0 sp tk vl mn fd sv)) (hr : RfAt w rb rn rf) (hq : qt = 0 ∨ qt = 1) (hs : s = 0 ∨ s = 1 ∨ s = 2) : Ctr mX6_refuses (rm 0) [.ref 99, vI s, vI v] nn w (pI (fun z w' => z = v ∧ RfAt w' (if s = 0 ∧ qt = 0 then rb + 1 else rb) (if s = 1 ∧ qt = 0 then rn + 1 else rn) (if s = 2 ∧ qt = 0 then rf + 1 else rf) ∧ ∀ j, j ≠ 104 → w' j = w j) nn) := by
  refine Ctr_of (lv := [some (.ref 99), some (vI s), some (vI v)]) (by decide +kernel) rfl rfl ?_
  obtain ⟨r, hr, r0, r1, r2⟩ := hr
  refine V_aload_n (Y := mX6_refuses) (pc := 0) dX6_refuses_0 rfl ?_
  apply V_get (Y := mX6_refuses) (pc := 1) dX6_refuses_1 fl_X6_23
  · assumption
  · rfl
  refine V_iload_n (Y := mX6_refuses) (pc := 4) dX6_refuses_4 rfl ?_
  refine V_dup2 (Y := mX6_refuses) (pc := 5) dX6_refuses_5 rfl rfl ?_
  apply V_iald (Y := mX6_refuses) (pc := 6) dX6_refuses_6
  · assumption
  · exact ⟨by omega, by omega⟩
  · omega
  refine V_aload_n (Y := mX6_refuses) (pc := 7) dX6_refuses_7 rfl ?_
  apply V_get (Y := mX6_refuses) (pc := 8) dX6_refuses_8 fl_X6_48
  · assumption
  · rfl
  refine V_if_eq (tgt := 18) (Y := mX6_refuses) (pc := 11) dX6_refuses_11 (by decide) ⟨by omega, by omega⟩ (fun h_11 => ?_) (fun h_11 => ?_)
  · refine V_iconst (Y := mX6_refuses) (pc := 18) dX6_refuses_18 ?_
    refine V_iadd (Y := mX6_refuses) (pc := 19) dX6_refuses_19 ?_
    apply V_iastW (Y := mX6_refuses) (pc := 20) dX6_refuses_20
    · assumption
    · exact ⟨by omega, by omega⟩
    · omega
    intro w_20 h_20 f_20
    refine V_iload_n (Y := mX6_refuses) (pc := 21) dX6_refuses_21 rfl ?_
    refine V_iret (Y := mX6_refuses) (pc := 22) dX6_refuses_22 rfl (Nat.le_of_ble_eq_true rfl) (Nat.le_of_ble_eq_true rfl) ?_
    subst r0 r1 r2
    have q := rf_up (r := r) (s := s) (qt := qt) hs (by first | exact Or.inl ⟨by omega, rfl⟩ | exact Or.inr ⟨by omega, rfl⟩)
    exact pI_of ⟨rfl, ⟨_, h_20, q.1, q.2.1, q.2.2⟩, f_20⟩
  · refine V_iconst (Y := mX6_refuses) (pc := 14) dX6_refuses_14 ?_
    refine V_goto (tgt := 19) (Y := mX6_refuses) (pc := 15) dX6_refuses_15 (by decide) ?_
    refine V_iadd (Y := mX6_refuses) (pc := 19) dX6_refuses_19 ?_
    apply V_iastW (Y := mX6_refuses) (pc := 20) dX6_refuses_20
    · assumption
    · exact ⟨by omega, by omega⟩
    · omega
    intro w_20 h_20 f_20
    refine V_iload_n (Y := mX6_refuses) (pc := 21) dX6_refuses_21 rfl ?_
    refine V_iret (Y := mX6_refuses) (pc := 22) dX6_refuses_22 rfl (Nat.le_of_ble_eq_true rfl) (Nat.le_of_ble_eq_true rfl) ?_
    subst r0 r1 r2
    have q := rf_up (r := r) (s := s) (qt := qt) hs (by first | exact Or.inl ⟨by omega, rfl⟩ | exact Or.inr ⟨by omega, rfl⟩)
    exact pI_of ⟨rfl, ⟨_, h_20, q.1, q.2.1, q.2.2⟩, f_20⟩
set_option maxRecDepth 100000 in
theorem cm_bad (ho : w 99 = some (mO qt ty a0 sp tk vl mn fd sv)) (hr : RfAt w rb rn rf) (hq : qt = 0 ∨ qt = 1) : Ctr mX6_bad (rm 1) [.ref 99] nn w (pI (fun z w' => z = -2 ∧ RfAt w' (tq qt (-2) (-2) rb) (tq qt (-3) (-2) rn) (tq qt (-4) (-2) rf) ∧ ∀ j, j ≠ 104 → w' j = w j) nn) := by
  refine Ctr_of (lv := [some (.ref 99)]) (by decide +kernel) rfl rfl ?_
  refine V_aload_n (Y := mX6_bad) (pc := 0) dX6_bad_0 rfl ?_
  refine V_iconst (Y := mX6_bad) (pc := 1) dX6_bad_1 ?_
  refine V_bipush (Y := mX6_bad) (pc := 2) dX6_bad_2 ⟨by decide, by decide⟩ ?_
  apply V_vI (Y := mX6_bad) (pc := 4) dX6_bad_4 ok_X6_refuses ov_X6_refuses ln_X6_52 (cm_refuses (s := 0) (v := -2) ho hr hq (Or.inl rfl))
  · assumption
  · rfl
  · rfl
  · rfl
  · rfl
  · rfl
  rintro z_4 w_4 ⟨hz, g1, f1⟩
  refine V_iret (Y := mX6_bad) (pc := 7) dX6_bad_7 rfl (Nat.le_of_ble_eq_true rfl) (Nat.le_of_ble_eq_true rfl) ?_
  exact pI_of ⟨hz, by simpa [tq] using g1, f1⟩
set_option maxRecDepth 100000 in
theorem cm_no (ho : w 99 = some (mO qt ty a0 sp tk vl mn fd sv)) (hr : RfAt w rb rn rf) (hq : qt = 0 ∨ qt = 1) : Ctr mX6_no (rm 1) [.ref 99] nn w (pI (fun z w' => z = -3 ∧ RfAt w' (tq qt (-2) (-3) rb) (tq qt (-3) (-3) rn) (tq qt (-4) (-3) rf) ∧ ∀ j, j ≠ 104 → w' j = w j) nn) := by
  refine Ctr_of (lv := [some (.ref 99)]) (by decide +kernel) rfl rfl ?_
  refine V_aload_n (Y := mX6_no) (pc := 0) dX6_no_0 rfl ?_
  refine V_iconst (Y := mX6_no) (pc := 1) dX6_no_1 ?_
  refine V_bipush (Y := mX6_no) (pc := 2) dX6_no_2 ⟨by decide, by decide⟩ ?_
  apply V_vI (Y := mX6_no) (pc := 4) dX6_no_4 ok_X6_refuses ov_X6_refuses ln_X6_52 (cm_refuses (s := 1) (v := -3) ho hr hq (Or.inr (Or.inl rfl)))
  · assumption
  · rfl
  · rfl
  · rfl
  · rfl
  · rfl
  rintro z_4 w_4 ⟨hz, g1, f1⟩
  refine V_iret (Y := mX6_no) (pc := 7) dX6_no_7 rfl (Nat.le_of_ble_eq_true rfl) (Nat.le_of_ble_eq_true rfl) ?_
  exact pI_of ⟨hz, by simpa [tq] using g1, f1⟩
set_option maxRecDepth 100000 in
theorem cm_full (ho : w 99 = some (mO qt ty a0 sp tk vl mn fd sv)) (hr : RfAt w rb rn rf) (hq : qt = 0 ∨ qt = 1) : Ctr mX6_full (rm 1) [.ref 99] nn w (pI (fun z w' => z = -4 ∧ RfAt w' (tq qt (-2) (-4) rb) (tq qt (-3) (-4) rn) (tq qt (-4) (-4) rf) ∧ ∀ j, j ≠ 104 → w' j = w j) nn) := by
  refine Ctr_of (lv := [some (.ref 99)]) (by decide +kernel) rfl rfl ?_
  refine V_aload_n (Y := mX6_full) (pc := 0) dX6_full_0 rfl ?_
  refine V_iconst (Y := mX6_full) (pc := 1) dX6_full_1 ?_
  refine V_bipush (Y := mX6_full) (pc := 2) dX6_full_2 ⟨by decide, by decide⟩ ?_
  apply V_vI (Y := mX6_full) (pc := 4) dX6_full_4 ok_X6_refuses ov_X6_refuses ln_X6_52 (cm_refuses (s := 2) (v := -4) ho hr hq (Or.inr (Or.inr rfl)))
  · assumption
  · rfl
  · rfl
  · rfl
  · rfl
  · rfl
  rintro z_4 w_4 ⟨hz, g1, f1⟩
  refine V_iret (Y := mX6_full) (pc := 7) dX6_full_7 rfl (Nat.le_of_ble_eq_true rfl) (Nat.le_of_ble_eq_true rfl) ?_
  exact pI_of ⟨hz, by simpa [tq] using g1, f1⟩
def BgOf (f : Nat → Int) (k : Int) : Prop := f 0 = k ∧ (∀ d : Nat, d < 7 → f (9 + d) = (d : Int)) ∧ ∀ i : Nat, i < 98 → i ≠ 0 → (i < 9 ∨ 16 ≤ i) → f i = 0
theorem BkOf_new {f : Nat → Int} {k : Int} (h : BgOf f k) (hk : 2 ≤ k ∧ k ≤ 7) : BkOf f k 0 0 0 0 (rsNew k.toNat) := by
  obtain ⟨h0, h1, h2⟩ := h
  have l0 : (rsNew k.toNat 0).length = k.toNat := iota_len _
  have e1 : ∀ j, j ≠ 0 → rsNew k.toNat j = [] := fun j hj => if_neg hj
  refine ⟨⟨⟨h0, ?_, ?_, ?_⟩, ⟨h2 4 (by omega) (by omega) (by omega), h2 5 (by omega) (by omega) (by omega), h2 6 (by omega) (by omega) (by omega), h2 7 (by omega) (by omega) (by omega), ?_⟩⟩, ⟨?_, ?_, ?_, ?_, by rw [l0]; omega⟩, fun d a b => ?_, fun c a b => ?_, fun c a b => ?_, fun c a b => ?_, fun c a b => ?_⟩
  · rw [e1 1 (by decide)]; exact h2 1 (by omega) (by omega) (by omega)
  · rw [e1 5 (by decide)]; exact h2 2 (by omega) (by omega) (by omega)
  · rw [e1 6 (by decide)]; exact h2 3 (by omega) (by omega) (by omega)
  · rw [e1 8 (by decide)]; exact h2 8 (by omega) (by omega) (by omega)
  · rw [e1 1 (by decide)]; exact Nat.zero_le _
  · rw [e1 5 (by decide)]; exact Nat.zero_le _
  · rw [e1 6 (by decide)]; exact Nat.zero_le _
  · rw [e1 8 (by decide)]; exact Nat.zero_le _
  · rw [l0] at b
    rw [show (9 + d).toNat = 9 + d.toNat by omega, h1 d.toNat (by omega), show rsNew k.toNat 0 = iota k.toNat from rfl, rAt_iota a b]; omega
  · rw [e1 1 (by decide)] at b; have b : c < (0 : Nat) := b; omega
  · rw [e1 5 (by decide)] at b; have b : c < (0 : Nat) := b; omega
  · rw [e1 6 (by decide)] at b; have b : c < (0 : Nat) := b; omega
  · rw [e1 8 (by decide)] at b; have b : c < (0 : Nat) := b; omega
set_option maxRecDepth 100000 in
theorem lpm_begins2 {k : Int} (ho : w 99 = some (mO qt ty a0 sp tk vl mn fd sv)) : ∀ (m : Nat) (i : Int) (w' : vWd) (f : Nat → Int), 0 ≤ i → i + m = 7 → w' 100 = some (arI 98 f) → (∀ j, j ≠ 100 → w' j = w j) → f 0 = k → (∀ d : Nat, (d : Int) < i → f (9 + d) = (d : Int)) → (∀ j : Nat, j < 98 → j ≠ 0 → (j < 9 ∨ 16 ≤ j) → f j = 0) →
    V mX6_begins (rm 0) (pV (fun w' => (∃ f', w' 100 = some (arI 98 f') ∧ BgOf f' k) ∧ ∀ j, j ≠ 100 → w' j = w j) nn) 30 [some (.ref 99), some (vI k), some (vI i)] [] nn w' 0 0 := by
  intro m
  induction m with
  | zero =>
    intro i w' f hi him hb hf h0 h1 h2
    refine V_iload_n (Y := mX6_begins) (pc := 30) dX6_begins_30 rfl ?_
    refine V_bipush (Y := mX6_begins) (pc := 31) dX6_begins_31 ⟨by decide, by decide⟩ ?_
    refine V_icmp_ge (tgt := 52) (Y := mX6_begins) (pc := 33) dX6_begins_33 (by decide) ⟨by omega, by omega⟩ ⟨by omega, by omega⟩ (fun h_33 => ?_) (fun h_33 => absurd h_33 (by omega))
    refine V_vret (Y := mX6_begins) (pc := 52) dX6_begins_52 rfl (Nat.le_of_ble_eq_true rfl) (Nat.le_of_ble_eq_true rfl) ?_
    exact pV_of ⟨⟨f, hb, h0, fun d hd => h1 d (by omega), h2⟩, hf⟩
  | succ m ih =>
    intro i w' f hi him hb hf h0 h1 h2
    have ho' := (hf 99 (by omega)).trans ho
    refine V_iload_n (Y := mX6_begins) (pc := 30) dX6_begins_30 rfl ?_
    refine V_bipush (Y := mX6_begins) (pc := 31) dX6_begins_31 ⟨by decide, by decide⟩ ?_
    refine V_icmp_ge (tgt := 52) (Y := mX6_begins) (pc := 33) dX6_begins_33 (by decide) ⟨by omega, by omega⟩ ⟨by omega, by omega⟩ (fun h_33 => absurd h_33 (by omega)) (fun h_33 => ?_)
    refine V_aload_n (Y := mX6_begins) (pc := 36) dX6_begins_36 rfl ?_
    apply V_get (Y := mX6_begins) (pc := 37) dX6_begins_37 fl_X6_7
    · assumption
    · rfl
    refine V_bipush (Y := mX6_begins) (pc := 40) dX6_begins_40 ⟨by decide, by decide⟩ ?_
    refine V_iload_n (Y := mX6_begins) (pc := 42) dX6_begins_42 rfl ?_
    refine V_iadd (Y := mX6_begins) (pc := 43) dX6_begins_43 ?_
    refine V_iload_n (Y := mX6_begins) (pc := 44) dX6_begins_44 rfl ?_
    apply V_iastW (Y := mX6_begins) (pc := 45) dX6_begins_45
    · assumption
    · exact ⟨by omega, by omega⟩
    · omega
    intro w_45 h_45 f_45
    refine V_iinc (Y := mX6_begins) (pc := 46) dX6_begins_46 rfl rfl ?_
    refine V_goto (tgt := 30) (Y := mX6_begins) (pc := 49) dX6_begins_49 (by decide) ?_
    refine ih (i + 1) w_45 _ (by omega) (by omega) h_45 (fun j hj => (f_45 j hj).trans (hf j hj)) ?_ (fun d hd => ?_) (fun j a b c => ?_)
    · rw [va_up_ne _ _ (by omega)]; exact h0
    · by_cases hdi : (d : Int) = i
      · rw [show 9 + d = (9 + i).toNat by omega, va_up_self]; omega
      · rw [va_up_ne _ _ (by omega)]; exact h1 d (by omega)
    · rw [va_up_ne _ _ (by omega)]; exact h2 j a b c
set_option maxRecDepth 100000 in
theorem lpm_begins1 {k : Int} (ho : w 99 = some (mO qt ty a0 sp tk vl mn fd sv)) : ∀ (m : Nat) (i : Int) (w' : vWd) (f : Nat → Int), 0 ≤ i → i + m = 98 → w' 100 = some (arI 98 f) → (∀ j, j ≠ 100 → w' j = w j) → (∀ j : Nat, (j : Int) < i → f j = 0) →
    V mX6_begins (rm 0) (pV (fun w' => (∃ f', w' 100 = some (arI 98 f') ∧ BgOf f' k) ∧ ∀ j, j ≠ 100 → w' j = w j) nn) 2 [some (.ref 99), some (vI k), some (vI i)] [] nn w' 0 0 := by
  intro m
  induction m with
  | zero =>
    intro i w' f hi him hb hf h0
    have ho' := (hf 99 (by omega)).trans ho
    refine V_iload_n (Y := mX6_begins) (pc := 2) dX6_begins_2 rfl ?_
    refine V_bipush (Y := mX6_begins) (pc := 3) dX6_begins_3 ⟨by decide, by decide⟩ ?_
    refine V_icmp_ge (tgt := 21) (Y := mX6_begins) (pc := 5) dX6_begins_5 (by decide) ⟨by omega, by omega⟩ ⟨by omega, by omega⟩ (fun h_5 => ?_) (fun h_5 => absurd h_5 (by omega))
    refine V_aload_n (Y := mX6_begins) (pc := 21) dX6_begins_21 rfl ?_
    apply V_get (Y := mX6_begins) (pc := 22) dX6_begins_22 fl_X6_7
    · assumption
    · rfl
    refine V_iconst (Y := mX6_begins) (pc := 25) dX6_begins_25 ?_
    refine V_iload_n (Y := mX6_begins) (pc := 26) dX6_begins_26 rfl ?_
    apply V_iastW (Y := mX6_begins) (pc := 27) dX6_begins_27
    · assumption
    · exact ⟨by omega, by omega⟩
    · omega
    intro w_27 h_27 f_27
    refine V_iconst (Y := mX6_begins) (pc := 28) dX6_begins_28 ?_
    refine V_istore_n (Y := mX6_begins) (pc := 29) dX6_begins_29 rfl ?_
    refine lpm_begins2 ho 7 0 w_27 _ (by omega) (by omega) h_27 (fun j hj => (f_27 j hj).trans (hf j hj)) rfl (fun d hd => by omega) (fun j a b c => ?_)
    rw [va_up_ne _ _ (by omega)]; exact h0 j (by omega)
  | succ m ih =>
    intro i w' f hi him hb hf h0
    have ho' := (hf 99 (by omega)).trans ho
    refine V_iload_n (Y := mX6_begins) (pc := 2) dX6_begins_2 rfl ?_
    refine V_bipush (Y := mX6_begins) (pc := 3) dX6_begins_3 ⟨by decide, by decide⟩ ?_
    refine V_icmp_ge (tgt := 21) (Y := mX6_begins) (pc := 5) dX6_begins_5 (by decide) ⟨by omega, by omega⟩ ⟨by omega, by omega⟩ (fun h_5 => absurd h_5 (by omega)) (fun h_5 => ?_)
    refine V_aload_n (Y := mX6_begins) (pc := 8) dX6_begins_8 rfl ?_
    apply V_get (Y := mX6_begins) (pc := 9) dX6_begins_9 fl_X6_7
    · assumption
    · rfl
    refine V_iload_n (Y := mX6_begins) (pc := 12) dX6_begins_12 rfl ?_
    refine V_iconst (Y := mX6_begins) (pc := 13) dX6_begins_13 ?_
    apply V_iastW (Y := mX6_begins) (pc := 14) dX6_begins_14
    · assumption
    · exact ⟨by omega, by omega⟩
    · omega
    intro w_14 h_14 f_14
    refine V_iinc (Y := mX6_begins) (pc := 15) dX6_begins_15 rfl rfl ?_
    refine V_goto (tgt := 2) (Y := mX6_begins) (pc := 18) dX6_begins_18 (by decide) ?_
    refine ih (i + 1) w_14 _ (by omega) (by omega) h_14 (fun j hj => (f_14 j hj).trans (hf j hj)) (fun j hj => ?_)
    by_cases hji : (j : Int) = i
    · rw [show j = i.toNat by omega, va_up_self]
    · rw [va_up_ne _ _ (by omega)]; exact h0 j (by omega)
set_option maxRecDepth 100000 in
theorem cm_begins {k : Int} {f : Nat → Int} (ho : w 99 = some (mO qt ty a0 sp tk vl mn fd sv)) (hb : w 100 = some (arI 98 f)) : Ctr mX6_begins (rm 0) [.ref 99, vI k] nn w (pV (fun w' => (∃ f', w' 100 = some (arI 98 f') ∧ BgOf f' k) ∧ ∀ j, j ≠ 100 → w' j = w j) nn) := by
  refine Ctr_of (lv := [some (.ref 99), some (vI k), none]) (by decide +kernel) rfl rfl ?_
  refine V_iconst (Y := mX6_begins) (pc := 0) dX6_begins_0 ?_
  refine V_istore_n (Y := mX6_begins) (pc := 1) dX6_begins_1 rfl ?_
  exact lpm_begins1 ho 98 0 w f (by omega) (by omega) hb (fun _ _ => rfl) (fun j hj => by omega)
set_option maxRecDepth 100000 in
theorem cm_wall {k : Int} (hK : MK w qt (n, now, ca, po, fo, rs) rb rn rf) (hn : 2 ≤ n ∧ n ≤ 7) (hk : inR k) : Ctr mX6_wall (rm 2) [.ref 99, vI k] nn w (pI (fun z w' => z = (fWall (n, now, ca, po, fo, rs) k).1 ∧ MK w' qt (fWall (n, now, ca, po, fo, rs) k).2 (tq qt (-2) z rb) (tq qt (-3) z rn) (tq qt (-4) z rf) ∧ frB w w') nn) := by
  refine Ctr_of (lv := [some (.ref 99), some (vI k), none]) (by decide +kernel) rfl rfl ?_
  have hK0 := hK
  obtain ⟨⟨ty, a0, sp, tk, vl, mn, fd, sv, ho⟩, ⟨f, hb, hB⟩, hr, hq⟩ := hK
  have e0 : f (0 : Int).toNat = n := hB.1.1.1
  refine V_iload_n (Y := mX6_wall) (pc := 0) dX6_wall_0 rfl ?_
  refine V_i2l (Y := mX6_wall) (pc := 1) dX6_wall_1 hk ?_
  refine V_ldc2 (z := (2 : Int)) (Y := mX6_wall) (pc := 2) dX6_wall_2 cl_X6_75 (by decide) ?_
  refine V_ldc2 (z := (7 : Int)) (Y := mX6_wall) (pc := 5) dX6_wall_5 cl_X6_77 (by decide) ?_
  apply V_sR (Y := mX6_wall) (pc := 8) dX6_wall_8 ok_X6_in os_X6_in ln_X6_56 (cm_in (a := k) (b := 2) (c := 7) hk ⟨by omega, by omega⟩ ⟨by omega, by omega⟩)
  · rfl
  · rfl
  · rfl
  refine V_if_neB (tgt := 19) (Y := mX6_wall) (pc := 11) dX6_wall_11 (by decide) (fun h_11 => ?_) (fun h_11 => ?_)
  · refine V_aload_n (Y := mX6_wall) (pc := 19) dX6_wall_19 rfl ?_
    apply V_get (Y := mX6_wall) (pc := 20) dX6_wall_20 fl_X6_7
    · assumption
    · rfl
    refine V_iconst (Y := mX6_wall) (pc := 23) dX6_wall_23 ?_
    apply V_iald (Y := mX6_wall) (pc := 24) dX6_wall_24
    · assumption
    · exact ⟨by omega, by omega⟩
    · omega
    rw [e0]
    refine V_istore_n (Y := mX6_wall) (pc := 25) dX6_wall_25 rfl ?_
    refine V_aload_n (Y := mX6_wall) (pc := 26) dX6_wall_26 rfl ?_
    refine V_iload_n (Y := mX6_wall) (pc := 27) dX6_wall_27 rfl ?_
    apply V_vV (Y := mX6_wall) (pc := 28) dX6_wall_28 ok_X6_begins ov_X6_begins ln_X6_44 (cm_begins (k := k) ho hb)
    · assumption
    · rfl
    · rfl
    · rfl
    · rfl
    · rfl
    rintro w_28 ⟨⟨f2, g1, g2⟩, f1⟩
    refine V_iload_n (Y := mX6_wall) (pc := 31) dX6_wall_31 rfl ?_
    refine V_iret (Y := mX6_wall) (pc := 32) dX6_wall_32 rfl (Nat.le_of_ble_eq_true rfl) (Nat.le_of_ble_eq_true rfl) ?_
    rw [show fWall (n, now, ca, po, fo, rs) k = (n, (k, 0, 0, 0, 0, rsNew k.toNat)) from if_neg (by omega)]
    exact pI_of ⟨rfl, MK.tq0 ⟨⟨_, _, _, _, _, _, _, _, (f1 _ (by omega)).trans ho⟩, ⟨f2, g1, BkOf_new g2 (by omega)⟩, hr.keep (f1 _ (by omega)), hq⟩ (by omega), fun j a b => f1 j a⟩
  · refine V_aload_n (Y := mX6_wall) (pc := 14) dX6_wall_14 rfl ?_
    apply V_vI (Y := mX6_wall) (pc := 15) dX6_wall_15 ok_X6_bad ov_X6_bad ln_X6_79 (cm_bad ho hr hq)
    · assumption
    · rfl
    · rfl
    · rfl
    · rfl
    · rfl
    rintro z_15 w_15 ⟨hz, g1, f1⟩
    subst hz
    refine V_iret (Y := mX6_wall) (pc := 18) dX6_wall_18 rfl (Nat.le_of_ble_eq_true rfl) (Nat.le_of_ble_eq_true rfl) ?_
    rw [show fWall (n, now, ca, po, fo, rs) k = (-2, (n, now, ca, po, fo, rs)) from if_pos (by omega)]
    exact pI_of ⟨rfl, ⟨⟨_, _, _, _, _, _, _, _, (f1 _ (by omega)).trans ho⟩, ⟨f, (f1 _ (by omega)).trans hb, hB⟩, g1, hq⟩, fun j a b => f1 j b⟩
theorem BkOf.cord {f f' : Nat → Int} {a b k v : Int} (h : BkOf f n now ca po fo rs) (hl : (rs 2).length = (rs 1).length ∧ (rs 3).length = (rs 1).length ∧ (rs 4).length = (rs 1).length) (hlt : (rs 1).length < 10) (h1 : f' 1 = (rs 1).length + 1) (ha : f' (16 + 4 * (rs 1).length) = a) (hb : f' (16 + 4 * (rs 1).length + 1) = b) (hk : f' (16 + 4 * (rs 1).length + 2) = k) (hv : f' (16 + 4 * (rs 1).length + 3) = v) (ho : ∀ i, i ≠ 1 → (i < 16 + 4 * (rs 1).length ∨ 20 + 4 * (rs 1).length ≤ i) → f' i = f i) : BkOf f' n now ca po fo (rsCord rs a b k v) := by
  obtain ⟨⟨⟨b0, b1, b2, b3⟩, b4, b5, b6, b7, b8⟩, ⟨l1, l5, l6, l8⟩, hd, hc, hor, hs, hp⟩ := h
  have r1 : rsCord rs a b k v 1 = rs 1 ++ [a] := rfl
  have r2 : rsCord rs a b k v 2 = rs 2 ++ [b] := rfl
  have r3 : rsCord rs a b k v 3 = rs 3 ++ [k] := rfl
  have r4 : rsCord rs a b k v 4 = rs 4 ++ [v] := rfl
  refine ⟨⟨⟨(ho 0 (by omega) (by omega)).trans b0, by rw [r1, app_len]; omega, (ho 2 (by omega) (by omega)).trans b2, (ho 3 (by omega) (by omega)).trans b3⟩, ⟨(ho 4 (by omega) (by omega)).trans b4, (ho 5 (by omega) (by omega)).trans b5, (ho 6 (by omega) (by omega)).trans b6, (ho 7 (by omega) (by omega)).trans b7, (ho 8 (by omega) (by omega)).trans b8⟩⟩, ⟨by rw [r1, app_len]; omega, l5, l6, l8⟩, fun d q1 q2 => ?_, fun c q1 q2 => ?_, fun c q1 q2 => ?_, fun c q1 q2 => ?_, fun c q1 q2 => ?_⟩
  · have q2 : d < (rs 0).length := q2
    exact (ho _ (by omega) (by omega)).trans (hd d q1 q2)
  · rw [r1, app_len] at q2
    rw [r1, r2, r3, r4, rAt_app q1 (by omega), rAt_app q1 (by omega), rAt_app q1 (by omega), rAt_app q1 (by omega), hl.1, hl.2.1, hl.2.2]
    by_cases hce : c = (rs 1).length
    · rw [if_pos hce, if_pos hce, if_pos hce, if_pos hce]
      refine ⟨?_, ?_, ?_, ?_⟩
      · rw [← ha]; congr 1; omega
      · rw [← hb]; congr 1; omega
      · rw [← hk]; congr 1; omega
      · rw [← hv]; congr 1; omega
    · rw [if_neg hce, if_neg hce, if_neg hce, if_neg hce]
      obtain ⟨c1, c2, c3, c4⟩ := hc c q1 (by omega)
      exact ⟨(ho _ (by omega) (by omega)).trans c1, (ho _ (by omega) (by omega)).trans c2, (ho _ (by omega) (by omega)).trans c3, (ho _ (by omega) (by omega)).trans c4⟩
  · have q2 : c < (rs 5).length := q2
    exact (ho _ (by omega) (by omega)).trans (hor c q1 q2)
  · have q2 : c < (rs 6).length := q2
    obtain ⟨c1, c2⟩ := hs c q1 q2
    exact ⟨(ho _ (by omega) (by omega)).trans c1, (ho _ (by omega) (by omega)).trans c2⟩
  · have q2 : c < (rs 8).length := q2
    exact (ho _ (by omega) (by omega)).trans (hp c q1 q2)
set_option maxRecDepth 100000 in
theorem cm_ties {a b k v : Int} {f : Nat → Int} (ho : w 99 = some (mO qt ty a0 sp tk vl mn fd sv)) (hb0 : w 100 = some (arI 98 f)) (hB : BkOf f n now ca po fo rs) (hl : (rs 2).length = (rs 1).length ∧ (rs 3).length = (rs 1).length ∧ (rs 4).length = (rs 1).length) (hlt : (rs 1).length < 10) : Ctr mX6_ties (rm 0) [.ref 99, vI a, vI b, vI k, vI v] nn w (pV (fun w' => (∃ f', w' 100 = some (arI 98 f') ∧ BkOf f' n now ca po fo (rsCord rs a b k v) ∧ ∀ i, i ≠ 1 → (i < 16 + 4 * (rs 1).length ∨ 20 + 4 * (rs 1).length ≤ i) → f' i = f i) ∧ ∀ j, j ≠ 100 → w' j = w j) nn) := by
  refine Ctr_of (lv := [some (.ref 99), some (vI a), some (vI b), some (vI k), some (vI v), none]) (by decide +kernel) rfl rfl ?_
  have e1 : f (1 : Int).toNat = (rs 1).length := hB.1.1.2.1
  refine V_bipush (Y := mX6_ties) (pc := 0) dX6_ties_0 ⟨by decide, by decide⟩ ?_
  refine V_iconst (Y := mX6_ties) (pc := 2) dX6_ties_2 ?_
  refine V_aload_n (Y := mX6_ties) (pc := 3) dX6_ties_3 rfl ?_
  apply V_get (Y := mX6_ties) (pc := 4) dX6_ties_4 fl_X6_7
  · assumption
  · rfl
  refine V_iconst (Y := mX6_ties) (pc := 7) dX6_ties_7 ?_
  apply V_iald (Y := mX6_ties) (pc := 8) dX6_ties_8
  · assumption
  · exact ⟨by omega, by omega⟩
  · omega
  rw [e1]
  refine V_imul (Y := mX6_ties) (pc := 9) dX6_ties_9 ?_
  refine V_iadd (Y := mX6_ties) (pc := 10) dX6_ties_10 ?_
  refine V_istore (Y := mX6_ties) (pc := 11) dX6_ties_11 rfl ?_
  refine V_aload_n (Y := mX6_ties) (pc := 13) dX6_ties_13 rfl ?_
  apply V_get (Y := mX6_ties) (pc := 14) dX6_ties_14 fl_X6_7
  · assumption
  · rfl
  refine V_iload (Y := mX6_ties) (pc := 17) dX6_ties_17 rfl ?_
  refine V_iload_n (Y := mX6_ties) (pc := 19) dX6_ties_19 rfl ?_
  apply V_iastW (Y := mX6_ties) (pc := 20) dX6_ties_20
  · assumption
  · exact ⟨by omega, by omega⟩
  · omega
  intro w_20 h_20 f_20
  have o20 := (f_20 99 (by omega)).trans ho
  refine V_aload_n (Y := mX6_ties) (pc := 21) dX6_ties_21 rfl ?_
  apply V_get (Y := mX6_ties) (pc := 22) dX6_ties_22 fl_X6_7
  · assumption
  · rfl
  refine V_iload (Y := mX6_ties) (pc := 25) dX6_ties_25 rfl ?_
  refine V_iconst (Y := mX6_ties) (pc := 27) dX6_ties_27 ?_
  refine V_iadd (Y := mX6_ties) (pc := 28) dX6_ties_28 ?_
  refine V_iload_n (Y := mX6_ties) (pc := 29) dX6_ties_29 rfl ?_
  apply V_iastW (Y := mX6_ties) (pc := 30) dX6_ties_30
  · assumption
  · exact ⟨by omega, by omega⟩
  · omega
  intro w_30 h_30 f_30
  have o30 := (f_30 99 (by omega)).trans o20
  refine V_aload_n (Y := mX6_ties) (pc := 31) dX6_ties_31 rfl ?_
  apply V_get (Y := mX6_ties) (pc := 32) dX6_ties_32 fl_X6_7
  · assumption
  · rfl
  refine V_iload (Y := mX6_ties) (pc := 35) dX6_ties_35 rfl ?_
  refine V_iconst (Y := mX6_ties) (pc := 37) dX6_ties_37 ?_
  refine V_iadd (Y := mX6_ties) (pc := 38) dX6_ties_38 ?_
  refine V_iload_n (Y := mX6_ties) (pc := 39) dX6_ties_39 rfl ?_
  apply V_iastW (Y := mX6_ties) (pc := 40) dX6_ties_40
  · assumption
  · exact ⟨by omega, by omega⟩
  · omega
  intro w_40 h_40 f_40
  have o40 := (f_40 99 (by omega)).trans o30
  refine V_aload_n (Y := mX6_ties) (pc := 41) dX6_ties_41 rfl ?_
  apply V_get (Y := mX6_ties) (pc := 42) dX6_ties_42 fl_X6_7
  · assumption
  · rfl
  refine V_iload (Y := mX6_ties) (pc := 45) dX6_ties_45 rfl ?_
  refine V_iconst (Y := mX6_ties) (pc := 47) dX6_ties_47 ?_
  refine V_iadd (Y := mX6_ties) (pc := 48) dX6_ties_48 ?_
  refine V_iload (Y := mX6_ties) (pc := 49) dX6_ties_49 rfl ?_
  apply V_iastW (Y := mX6_ties) (pc := 51) dX6_ties_51
  · assumption
  · exact ⟨by omega, by omega⟩
  · omega
  intro w_51 h_51 f_51
  have o51 := (f_51 99 (by omega)).trans o40
  refine V_aload_n (Y := mX6_ties) (pc := 52) dX6_ties_52 rfl ?_
  apply V_get (Y := mX6_ties) (pc := 53) dX6_ties_53 fl_X6_7
  · assumption
  · rfl
  refine V_iconst (Y := mX6_ties) (pc := 56) dX6_ties_56 ?_
  refine V_dup2 (Y := mX6_ties) (pc := 57) dX6_ties_57 rfl rfl ?_
  apply V_iald (Y := mX6_ties) (pc := 58) dX6_ties_58
  · assumption
  · exact ⟨by omega, by omega⟩
  · omega
  rw [va_up_ne _ _ (by omega), va_up_ne _ _ (by omega), va_up_ne _ _ (by omega), va_up_ne _ _ (by omega), e1]
  refine V_iconst (Y := mX6_ties) (pc := 59) dX6_ties_59 ?_
  refine V_iadd (Y := mX6_ties) (pc := 60) dX6_ties_60 ?_
  apply V_iastW (Y := mX6_ties) (pc := 61) dX6_ties_61
  · assumption
  · exact ⟨by omega, by omega⟩
  · omega
  intro w_61 h_61 f_61
  refine V_vret (Y := mX6_ties) (pc := 62) dX6_ties_62 rfl (Nat.le_of_ble_eq_true rfl) (Nat.le_of_ble_eq_true rfl) ?_
  have q : ∀ i, i ≠ 1 → (i < 16 + 4 * (rs 1).length ∨ 20 + 4 * (rs 1).length ≤ i) → (va_up (va_up (va_up (va_up (va_up f (16 + 4 * ((rs 1).length : Int)).toNat a) (16 + 4 * ((rs 1).length : Int) + 1).toNat b) (16 + 4 * ((rs 1).length : Int) + 2).toNat k) (16 + 4 * ((rs 1).length : Int) + 3).toNat v) (1 : Int).toNat ((rs 1).length + 1)) i = f i := fun i h1 h2 => by rw [va_up_ne _ _ (by omega), va_up_ne _ _ (by omega), va_up_ne _ _ (by omega), va_up_ne _ _ (by omega), va_up_ne _ _ (by omega)]
  refine pV_of ⟨⟨_, h_61, hB.cord hl hlt ?_ ?_ ?_ ?_ ?_ q, q⟩, fun j hj => (f_61 j hj).trans ((f_51 j hj).trans ((f_40 j hj).trans ((f_30 j hj).trans (f_20 j hj))))⟩
  · rw [show (1 : Nat) = (1 : Int).toNat from rfl, va_up_self]
  · rw [va_up_ne _ _ (by omega), va_up_ne _ _ (by omega), va_up_ne _ _ (by omega), va_up_ne _ _ (by omega), show 16 + 4 * (rs 1).length = (16 + 4 * ((rs 1).length : Int)).toNat by omega, va_up_self]
  · rw [va_up_ne _ _ (by omega), va_up_ne _ _ (by omega), va_up_ne _ _ (by omega), show 16 + 4 * (rs 1).length + 1 = (16 + 4 * ((rs 1).length : Int) + 1).toNat by omega, va_up_self]
  · rw [va_up_ne _ _ (by omega), va_up_ne _ _ (by omega), show 16 + 4 * (rs 1).length + 2 = (16 + 4 * ((rs 1).length : Int) + 2).toNat by omega, va_up_self]
  · rw [va_up_ne _ _ (by omega), show 16 + 4 * (rs 1).length + 3 = (16 + 4 * ((rs 1).length : Int) + 3).toNat by omega, va_up_self]
set_option maxRecDepth 100000 in
theorem cm_cord {a b k v : Int} (hK : MK w qt (n, now, ca, po, fo, rs) rb rn rf) (hG : vGood (n, now, ca, po, fo, rs)) (ha : inR a) (hb : inR b) (hk : inR k) (hv : inR v) : Ctr mX6_cord (rm 2) [.ref 99, vI a, vI b, vI k, vI v] nn w (pI (fun z w' => z = (fCord (n, now, ca, po, fo, rs) a b k v).1 ∧ MK w' qt (fCord (n, now, ca, po, fo, rs) a b k v).2 (tq qt (-2) z rb) (tq qt (-3) z rn) (tq qt (-4) z rf) ∧ frB w w') nn) := by
  refine Ctr_of (lv := [some (.ref 99), some (vI a), some (vI b), some (vI k), some (vI v)]) (by decide +kernel) rfl rfl ?_
  have hM := hK.ms
  obtain ⟨⟨ty, a0, sp, tk, vl, mn, fd, sv, ho⟩, ⟨f, hb0, hB⟩, hr, hq⟩ := hK
  obtain ⟨hn, hnow, hca, hpo, hfo, hgd, hcv, hor, hsg, hpast⟩ := hG.un
  have hB : BkOf f n now ca po fo rs := hB
  have e1 : f (1 : Int).toNat = (rs 1).length := hB.1.1.2.1
  have hl := hB.2.1
  refine V_aload_n (Y := mX6_cord) (pc := 0) dX6_cord_0 rfl ?_
  refine V_iload_n (Y := mX6_cord) (pc := 1) dX6_cord_1 rfl ?_
  apply V_vR (Y := mX6_cord) (pc := 2) dX6_cord_2 ok_X6_isDrawer ov_X6_isDrawer ln_X6_83 (cm_isDrawer (d := a) hM hn ha)
  · assumption
  · rfl
  · rfl
  · rfl
  · rfl
  · rfl
  refine V_if_eqB (tgt := 53) (Y := mX6_cord) (pc := 5) dX6_cord_5 (by decide) (fun h_5 => ?_) (fun h_5 => ?_)
  · refine V_aload_n (Y := mX6_cord) (pc := 53) dX6_cord_53 rfl ?_
    apply V_vI (Y := mX6_cord) (pc := 54) dX6_cord_54 ok_X6_bad ov_X6_bad ln_X6_79 (cm_bad ho hr hq)
    · assumption
    · rfl
    · rfl
    · rfl
    · rfl
    · rfl
    rintro z_54 w_54 ⟨hz, g1, f1⟩
    subst hz
    refine V_iret (Y := mX6_cord) (pc := 57) dX6_cord_57 rfl (Nat.le_of_ble_eq_true rfl) (Nat.le_of_ble_eq_true rfl) ?_
    rw [show fCord (n, now, ca, po, fo, rs) a b k v = (-2, (n, now, ca, po, fo, rs)) from if_pos (by omega)]
    exact pI_of ⟨rfl, ⟨⟨_, _, _, _, _, _, _, _, (f1 _ (by omega)).trans ho⟩, ⟨f, (f1 _ (by omega)).trans hb0, hB⟩, g1, hq⟩, fun j a b => f1 j b⟩
  · refine V_aload_n (Y := mX6_cord) (pc := 8) dX6_cord_8 rfl ?_
    refine V_iload_n (Y := mX6_cord) (pc := 9) dX6_cord_9 rfl ?_
    apply V_vR (Y := mX6_cord) (pc := 10) dX6_cord_10 ok_X6_isDrawer ov_X6_isDrawer ln_X6_83 (cm_isDrawer (d := b) hM hn hb)
    · assumption
    · rfl
    · rfl
    · rfl
    · rfl
    · rfl
    refine V_if_eqB (tgt := 53) (Y := mX6_cord) (pc := 13) dX6_cord_13 (by decide) (fun h_13 => ?_) (fun h_13 => ?_)
    · refine V_aload_n (Y := mX6_cord) (pc := 53) dX6_cord_53 rfl ?_
      apply V_vI (Y := mX6_cord) (pc := 54) dX6_cord_54 ok_X6_bad ov_X6_bad ln_X6_79 (cm_bad ho hr hq)
      · assumption
      · rfl
      · rfl
      · rfl
      · rfl
      · rfl
      rintro z_54 w_54 ⟨hz, g1, f1⟩
      subst hz
      refine V_iret (Y := mX6_cord) (pc := 57) dX6_cord_57 rfl (Nat.le_of_ble_eq_true rfl) (Nat.le_of_ble_eq_true rfl) ?_
      rw [show fCord (n, now, ca, po, fo, rs) a b k v = (-2, (n, now, ca, po, fo, rs)) from if_pos (by omega)]
      exact pI_of ⟨rfl, ⟨⟨_, _, _, _, _, _, _, _, (f1 _ (by omega)).trans ho⟩, ⟨f, (f1 _ (by omega)).trans hb0, hB⟩, g1, hq⟩, fun j a b => f1 j b⟩
    · refine V_iload_n (Y := mX6_cord) (pc := 16) dX6_cord_16 rfl ?_
      refine V_iload_n (Y := mX6_cord) (pc := 17) dX6_cord_17 rfl ?_
      refine V_icmp_eq (tgt := 53) (Y := mX6_cord) (pc := 18) dX6_cord_18 (by decide) ⟨by omega, by omega⟩ ⟨by omega, by omega⟩ (fun h_18 => ?_) (fun h_18 => ?_)
      · refine V_aload_n (Y := mX6_cord) (pc := 53) dX6_cord_53 rfl ?_
        apply V_vI (Y := mX6_cord) (pc := 54) dX6_cord_54 ok_X6_bad ov_X6_bad ln_X6_79 (cm_bad ho hr hq)
        · assumption
        · rfl
        · rfl
        · rfl
        · rfl
        · rfl
        rintro z_54 w_54 ⟨hz, g1, f1⟩
        subst hz
        refine V_iret (Y := mX6_cord) (pc := 57) dX6_cord_57 rfl (Nat.le_of_ble_eq_true rfl) (Nat.le_of_ble_eq_true rfl) ?_
        rw [show fCord (n, now, ca, po, fo, rs) a b k v = (-2, (n, now, ca, po, fo, rs)) from if_pos (by omega)]
        exact pI_of ⟨rfl, ⟨⟨_, _, _, _, _, _, _, _, (f1 _ (by omega)).trans ho⟩, ⟨f, (f1 _ (by omega)).trans hb0, hB⟩, g1, hq⟩, fun j a b => f1 j b⟩
      · refine V_iload_n (Y := mX6_cord) (pc := 21) dX6_cord_21 rfl ?_
        refine V_i2l (Y := mX6_cord) (pc := 22) dX6_cord_22 hk ?_
        refine V_lconst (Y := mX6_cord) (pc := 23) dX6_cord_23 ?_
        refine V_ldc2 (z := (5 : Int)) (Y := mX6_cord) (pc := 24) dX6_cord_24 cl_X6_87 (by decide) ?_
        apply V_sR (Y := mX6_cord) (pc := 27) dX6_cord_27 ok_X6_in os_X6_in ln_X6_56 (cm_in (a := k) (b := 0) (c := 5) hk ⟨by omega, by omega⟩ ⟨by omega, by omega⟩)
        · rfl
        · rfl
        · rfl
        refine V_if_eqB (tgt := 53) (Y := mX6_cord) (pc := 30) dX6_cord_30 (by decide) (fun h_30 => ?_) (fun h_30 => ?_)
        · refine V_aload_n (Y := mX6_cord) (pc := 53) dX6_cord_53 rfl ?_
          apply V_vI (Y := mX6_cord) (pc := 54) dX6_cord_54 ok_X6_bad ov_X6_bad ln_X6_79 (cm_bad ho hr hq)
          · assumption
          · rfl
          · rfl
          · rfl
          · rfl
          · rfl
          rintro z_54 w_54 ⟨hz, g1, f1⟩
          subst hz
          refine V_iret (Y := mX6_cord) (pc := 57) dX6_cord_57 rfl (Nat.le_of_ble_eq_true rfl) (Nat.le_of_ble_eq_true rfl) ?_
          rw [show fCord (n, now, ca, po, fo, rs) a b k v = (-2, (n, now, ca, po, fo, rs)) from if_pos (by omega)]
          exact pI_of ⟨rfl, ⟨⟨_, _, _, _, _, _, _, _, (f1 _ (by omega)).trans ho⟩, ⟨f, (f1 _ (by omega)).trans hb0, hB⟩, g1, hq⟩, fun j a b => f1 j b⟩
        · refine V_iload (Y := mX6_cord) (pc := 33) dX6_cord_33 rfl ?_
          refine V_i2l (Y := mX6_cord) (pc := 35) dX6_cord_35 hv ?_
          refine V_ldc2 (z := (-2 : Int)) (Y := mX6_cord) (pc := 36) dX6_cord_36 cl_X6_89 (by decide) ?_
          refine V_ldc2 (z := (2 : Int)) (Y := mX6_cord) (pc := 39) dX6_cord_39 cl_X6_75 (by decide) ?_
          apply V_sR (Y := mX6_cord) (pc := 42) dX6_cord_42 ok_X6_in os_X6_in ln_X6_56 (cm_in (a := v) (b := -2) (c := 2) hv ⟨by omega, by omega⟩ ⟨by omega, by omega⟩)
          · rfl
          · rfl
          · rfl
          refine V_if_eqB (tgt := 53) (Y := mX6_cord) (pc := 45) dX6_cord_45 (by decide) (fun h_45 => ?_) (fun h_45 => ?_)
          · refine V_aload_n (Y := mX6_cord) (pc := 53) dX6_cord_53 rfl ?_
            apply V_vI (Y := mX6_cord) (pc := 54) dX6_cord_54 ok_X6_bad ov_X6_bad ln_X6_79 (cm_bad ho hr hq)
            · assumption
            · rfl
            · rfl
            · rfl
            · rfl
            · rfl
            rintro z_54 w_54 ⟨hz, g1, f1⟩
            subst hz
            refine V_iret (Y := mX6_cord) (pc := 57) dX6_cord_57 rfl (Nat.le_of_ble_eq_true rfl) (Nat.le_of_ble_eq_true rfl) ?_
            rw [show fCord (n, now, ca, po, fo, rs) a b k v = (-2, (n, now, ca, po, fo, rs)) from if_pos (by omega)]
            exact pI_of ⟨rfl, ⟨⟨_, _, _, _, _, _, _, _, (f1 _ (by omega)).trans ho⟩, ⟨f, (f1 _ (by omega)).trans hb0, hB⟩, g1, hq⟩, fun j a b => f1 j b⟩
          · refine V_iload (Y := mX6_cord) (pc := 48) dX6_cord_48 rfl ?_
            refine V_if_ne (tgt := 58) (Y := mX6_cord) (pc := 50) dX6_cord_50 (by decide) ⟨by omega, by omega⟩ (fun h_50 => ?_) (fun h_50 => ?_)
            · refine V_aload_n (Y := mX6_cord) (pc := 58) dX6_cord_58 rfl ?_
              apply V_get (Y := mX6_cord) (pc := 59) dX6_cord_59 fl_X6_7
              · assumption
              · rfl
              refine V_iconst (Y := mX6_cord) (pc := 62) dX6_cord_62 ?_
              apply V_iald (Y := mX6_cord) (pc := 63) dX6_cord_63
              · assumption
              · exact ⟨by omega, by omega⟩
              · omega
              rw [e1]
              refine V_bipush (Y := mX6_cord) (pc := 64) dX6_cord_64 ⟨by decide, by decide⟩ ?_
              refine V_icmp_ne (tgt := 74) (Y := mX6_cord) (pc := 66) dX6_cord_66 (by decide) ⟨by omega, by omega⟩ ⟨by omega, by omega⟩ (fun h_66 => ?_) (fun h_66 => ?_)
              · refine V_aload_n (Y := mX6_cord) (pc := 74) dX6_cord_74 rfl ?_
                refine V_iload_n (Y := mX6_cord) (pc := 75) dX6_cord_75 rfl ?_
                refine V_iload_n (Y := mX6_cord) (pc := 76) dX6_cord_76 rfl ?_
                refine V_iload_n (Y := mX6_cord) (pc := 77) dX6_cord_77 rfl ?_
                refine V_iload (Y := mX6_cord) (pc := 78) dX6_cord_78 rfl ?_
                apply V_vV (Y := mX6_cord) (pc := 80) dX6_cord_80 ok_X6_ties ov_X6_ties ln_X6_94 (cm_ties (a := a) (b := b) (k := k) (v := v) ho hb0 hB hcv.1 (by omega))
                · assumption
                · rfl
                · rfl
                · rfl
                · rfl
                · rfl
                rintro w_80 ⟨⟨f2, g1, g2, -⟩, f1⟩
                have o80 := (f1 99 (by omega)).trans ho
                have e2 : f2 (1 : Int).toNat = (rs 1).length + 1 := g2.1.1.2.1.trans (by rw [show rsCord rs a b k v 1 = rs 1 ++ [a] from rfl, app_len]; omega)
                refine V_aload_n (Y := mX6_cord) (pc := 83) dX6_cord_83 rfl ?_
                apply V_get (Y := mX6_cord) (pc := 84) dX6_cord_84 fl_X6_7
                · assumption
                · rfl
                refine V_iconst (Y := mX6_cord) (pc := 87) dX6_cord_87 ?_
                apply V_iald (Y := mX6_cord) (pc := 88) dX6_cord_88
                · assumption
                · exact ⟨by omega, by omega⟩
                · omega
                rw [e2]
                refine V_iconst (Y := mX6_cord) (pc := 89) dX6_cord_89 ?_
                refine V_isub (Y := mX6_cord) (pc := 90) dX6_cord_90 ?_
                refine V_iret (Y := mX6_cord) (pc := 91) dX6_cord_91 rfl (Nat.le_of_ble_eq_true rfl) (Nat.le_of_ble_eq_true rfl) ?_
                rw [show fCord (n, now, ca, po, fo, rs) a b k v = (((rs 1).length : Int), (n, now, ca, po, fo, rsCord rs a b k v)) from (if_neg (by omega)).trans (if_neg (by show ¬ 10 ≤ (rs 1).length; omega))]
                refine pI_of ⟨by show ((rs 1).length : Int) + 1 - 1 = (rs 1).length; omega, MK.tq0 ⟨⟨_, _, _, _, _, _, _, _, o80⟩, ⟨f2, g1, g2⟩, hr.keep (f1 _ (by omega)), hq⟩ (by omega), fun j a b => f1 j a⟩
              · refine V_aload_n (Y := mX6_cord) (pc := 69) dX6_cord_69 rfl ?_
                apply V_vI (Y := mX6_cord) (pc := 70) dX6_cord_70 ok_X6_full ov_X6_full ln_X6_91 (cm_full ho hr hq)
                · assumption
                · rfl
                · rfl
                · rfl
                · rfl
                · rfl
                rintro z_70 w_70 ⟨hz, g1, f1⟩
                subst hz
                refine V_iret (Y := mX6_cord) (pc := 73) dX6_cord_73 rfl (Nat.le_of_ble_eq_true rfl) (Nat.le_of_ble_eq_true rfl) ?_
                rw [show fCord (n, now, ca, po, fo, rs) a b k v = (-4, (n, now, ca, po, fo, rs)) from (if_neg (by omega)).trans (if_pos (by show 10 ≤ (rs 1).length; omega))]
                exact pI_of ⟨rfl, ⟨⟨_, _, _, _, _, _, _, _, (f1 _ (by omega)).trans ho⟩, ⟨f, (f1 _ (by omega)).trans hb0, hB⟩, g1, hq⟩, fun j a b => f1 j b⟩
            · refine V_aload_n (Y := mX6_cord) (pc := 53) dX6_cord_53 rfl ?_
              apply V_vI (Y := mX6_cord) (pc := 54) dX6_cord_54 ok_X6_bad ov_X6_bad ln_X6_79 (cm_bad ho hr hq)
              · assumption
              · rfl
              · rfl
              · rfl
              · rfl
              · rfl
              rintro z_54 w_54 ⟨hz, g1, f1⟩
              subst hz
              refine V_iret (Y := mX6_cord) (pc := 57) dX6_cord_57 rfl (Nat.le_of_ble_eq_true rfl) (Nat.le_of_ble_eq_true rfl) ?_
              rw [show fCord (n, now, ca, po, fo, rs) a b k v = (-2, (n, now, ca, po, fo, rs)) from if_pos (by omega)]
              exact pI_of ⟨rfl, ⟨⟨_, _, _, _, _, _, _, _, (f1 _ (by omega)).trans ho⟩, ⟨f, (f1 _ (by omega)).trans hb0, hB⟩, g1, hq⟩, fun j a b => f1 j b⟩
end MOD
