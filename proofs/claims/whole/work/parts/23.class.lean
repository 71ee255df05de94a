/-! ===== DrawerWall: its state, and the calls that tell ===== -/
abbrev xO (k0 k1 rb rn rf : Int) : va_E := .inr (5, [.ref 1, .ref 20, .ref 39, .ref 58, vI k0, vI k1, .ref 77, .ref 79, .ref 84, .ref 95, .ref 96, .ref 97, vI rb, vI rn, vI rf])
def RdAt (w : vWd) : Prop := ∃ (pl nx tk : Int) (lb lc : List Int), w 79 = some (.inr (1, [.ref 80, .ref 82, vI pl, vI nx, vI tk])) ∧ RowAt w 80 200 lb ∧ RowAt w 82 1000 lc
def WkInv (w : vWd) (n : Int) (ca : Nat) (rs : Nat → List Int) : Prop := ∃ (lr dn sn tt tb : Int) (st : List Int) (F : bF), WalkAt w 84 lr dn sn (-1) tt tb st F ∧ (lr = 0 ∨ (lr = 1 ∧ dn = n ∧ sn = p3 n.toNat ∧ tbIs n ca rs st)) ∧ st.length = 15309 ∧ FSh F ∧ AOK F ∧ inR tt ∧ inR tb
/-- what holds of a wall that has been told -/
def vGood (S : vSt) : Prop := (2 ≤ S.1 ∧ S.1 ≤ 7) ∧ isS S.1 S.2.1 ∧ S.2.2.1 < 128 ∧ S.2.2.2.1 < 128 ∧ S.2.2.2.2.1 < 128 ∧ gdOK S.1 S.2.2.2.2.2 ∧ cvOK S.1 S.2.2.2.2.2 ∧ orOK S.2.2.2.2.2 ∧ sgOK S.1 S.2.2.2.2.2 ∧ ∀ k : Int, 0 ≤ k → k < (S.2.2.2.2.2 8).length → isS S.1 (rAt (S.2.2.2.2.2 8) k)
def XRest (w : vWd) (S0 S1 : vSt) (tx : List Int) : Prop := (∃ D : vSt, WallAt w 20 D ∧ vGood D) ∧ WallAt w 39 S0 ∧ WallAt w 58 S1 ∧ RowAt w 77 200 tx ∧ RdAt w ∧ (∃ a b, DayAt w 95 a b) ∧ (∃ a b, DayAt w 96 a b) ∧ ∃ l, RowAt w 97 7 l
def XInv (w : vWd) (S S0 S1 : vSt) (k0 k1 : Int) (tx : List Int) (rb rn rf : Int) : Prop := w 0 = some (xO k0 k1 rb rn rf) ∧ WallAt w 1 S ∧ WkInv w S.1 S.2.2.1 S.2.2.2.2.2 ∧ XRest w S0 S1 tx
def frX (w w' : vWd) : Prop := ∀ j, 99 ≤ j → w' j = w j
theorem RdAt.keep {w w' : vWd} (h : RdAt w) (hf : ∀ j, 79 ≤ j → j < 84 → w' j = w j) : RdAt w' := by
  obtain ⟨pl, nx, tk, lb, lc, h1, h2, h3⟩ := h
  exact ⟨pl, nx, tk, lb, lc, (hf 79 (by omega) (by omega)).trans h1, h2.keep (hf _ (by omega) (by omega)) (hf _ (by omega) (by omega)), h3.keep (hf _ (by omega) (by omega)) (hf _ (by omega) (by omega))⟩
theorem XRest.keep {w w' : vWd} {S0 S1 : vSt} {tx : List Int} (h : XRest w S0 S1 tx) (hf : ∀ j, 20 ≤ j → j < 84 → w' j = w j) (hf2 : ∀ j, 95 ≤ j → j < 99 → w' j = w j) : XRest w' S0 S1 tx := by
  obtain ⟨⟨D, h1, hD⟩, h2, h3, h4, h5, ⟨a, b, h6⟩, ⟨a2, b2, h7⟩, ⟨l, h8⟩⟩ := h
  exact ⟨⟨D, h1.keep (fun j a b => hf j (by omega) (by omega)), hD⟩, h2.keep (fun j a b => hf j (by omega) (by omega)), h3.keep (fun j a b => hf j (by omega) (by omega)), h4.keep (hf _ (by omega) (by omega)) (hf _ (by omega) (by omega)), h5.keep (fun j a b => hf j (by omega) (by omega)), ⟨a, b, (hf2 95 (by omega) (by omega)).trans h6⟩, ⟨a2, b2, (hf2 96 (by omega) (by omega)).trans h7⟩, ⟨l, h8.keep (hf2 _ (by omega) (by omega)) (hf2 _ (by omega) (by omega))⟩⟩
theorem WkInv.keep {w w' : vWd} {n : Int} {ca : Nat} {rs : Nat → List Int} (h : WkInv w n ca rs) (hf : ∀ j, 84 ≤ j → j < 95 → w' j = w j) : WkInv w' n ca rs := by
  obtain ⟨lr, dn, sn, tt, tb, st, F, h1, h2⟩ := h
  exact ⟨lr, dn, sn, tt, tb, st, F, h1.keep (fun j a b => hf j (by omega) (by omega)), h2⟩
theorem aft_rs {ca : Nat} {rs rs' : Nat → List Int} (h1 : rs' 1 = rs 1) (h2 : rs' 2 = rs 2) (h3 : rs' 3 = rs 3) (h4 : rs' 4 = rs 4) (s d : Int) (x : Int32) : aft ca rs' s d x = aft ca rs s d x := by
  have hst : ∀ o c t, cStep rs' x d o c t = cStep rs x d o c t := by
    intro o c t
    unfold cStep cAmt
    rw [h1, h2, h3, h4]
  have hrun : ∀ o t0 m, cRun rs' x d o t0 m = cRun rs x d o t0 m := by
    intro o t0 m
    induction m with
    | zero => rfl
    | succ m ih => rw [cRun, cRun, hst, ih]
  unfold aft
  rw [hrun, h1]
theorem WkInv.rs {w : vWd} {n : Int} {ca : Nat} {rs rs' : Nat → List Int} (h : WkInv w n ca rs) (h1 : rs' 1 = rs 1) (h2 : rs' 2 = rs 2) (h3 : rs' 3 = rs 3) (h4 : rs' 4 = rs 4) : WkInv w n ca rs' := by
  obtain ⟨lr, dn, sn, tt, tb, st, F, a, b, c⟩ := h
  refine ⟨lr, dn, sn, tt, tb, st, F, a, ?_, c⟩
  rcases b with b | ⟨b1, b2, b3, b4⟩
  · exact Or.inl b
  · exact Or.inr ⟨b1, b2, b3, fun s d hs hd => by rw [aft_rs h1 h2 h3 h4]; exact b4 s d hs hd⟩
def tl1 (k z r : Int) : Int := if z = k then r + 1 else r
set_option maxRecDepth 100000 in
theorem c_told {nn : Nat} {w : vWd} {z k0 k1 rb rn rf : Int} (h : w 0 = some (xO k0 k1 rb rn rf)) (hz : inR z) : Ctr mX5_counted (rm 0) [.ref 0, vI z] nn w (pI (fun r w' => r = z ∧ w' 0 = some (xO k0 k1 (tl1 (-2) z rb) (tl1 (-3) z rn) (tl1 (-4) z rf)) ∧ ∀ j, j ≠ 0 → w' j = w j) nn) := by
  refine Ctr_of (lv := [some (.ref 0), some (vI z)]) (by decide +kernel) rfl rfl ?_
  refine V_iload_n (Y := mX5_counted) (pc := 0) dX5_counted_0 rfl ?_
  refine V_bipush (Y := mX5_counted) (pc := 1) dX5_counted_1 ⟨by decide, by decide⟩ ?_
  refine V_icmp_ne (tgt := 16) (Y := mX5_counted) (pc := 3) dX5_counted_3 (by decide) ⟨by omega, by omega⟩ ⟨by omega, by omega⟩ (fun h_3 => ?_) (fun h_3 => ?_)
  · refine V_iload_n (Y := mX5_counted) (pc := 16) dX5_counted_16 rfl ?_
    refine V_bipush (Y := mX5_counted) (pc := 17) dX5_counted_17 ⟨by decide, by decide⟩ ?_
    refine V_icmp_ne (tgt := 32) (Y := mX5_counted) (pc := 19) dX5_counted_19 (by decide) ⟨by omega, by omega⟩ ⟨by omega, by omega⟩ (fun h_19 => ?_) (fun h_19 => ?_)
    · refine V_iload_n (Y := mX5_counted) (pc := 32) dX5_counted_32 rfl ?_
      refine V_bipush (Y := mX5_counted) (pc := 33) dX5_counted_33 ⟨by decide, by decide⟩ ?_
      refine V_icmp_ne (tgt := 48) (Y := mX5_counted) (pc := 35) dX5_counted_35 (by decide) ⟨by omega, by omega⟩ ⟨by omega, by omega⟩ (fun h_35 => ?_) (fun h_35 => ?_)
      · refine V_iload_n (Y := mX5_counted) (pc := 48) dX5_counted_48 rfl ?_
        refine V_iret (Y := mX5_counted) (pc := 49) dX5_counted_49 rfl (Nat.le_of_ble_eq_true rfl) (Nat.le_of_ble_eq_true rfl) ?_
        first
          | (exfalso; omega)
          | (refine pI_of ⟨rfl, ?_, ?_⟩
             · first | (simp only [tl1, *, if_true, if_false]; done) | (simp_all [tl1]; done)
             · intro j hj; first | rfl | exact f_13 j hj | exact f_29 j hj | exact f_45 j hj)
      · refine V_aload_n (Y := mX5_counted) (pc := 38) dX5_counted_38 rfl ?_
        refine V_dup (Y := mX5_counted) (pc := 39) dX5_counted_39 rfl ?_
        apply V_get (Y := mX5_counted) (pc := 40) dX5_counted_40 fl_X5_75
        · assumption
        · rfl
        refine V_iconst (Y := mX5_counted) (pc := 43) dX5_counted_43 ?_
        refine V_iadd (Y := mX5_counted) (pc := 44) dX5_counted_44 ?_
        apply V_putiW (Y := mX5_counted) (pc := 45) dX5_counted_45 fl_X5_75
        · assumption
        · exact Nat.le_of_ble_eq_true rfl
        intro w_45 h_45 f_45
        simp only [List.set_cons_zero, List.set_cons_succ] at h_45
        refine V_iload_n (Y := mX5_counted) (pc := 48) dX5_counted_48 rfl ?_
        refine V_iret (Y := mX5_counted) (pc := 49) dX5_counted_49 rfl (Nat.le_of_ble_eq_true rfl) (Nat.le_of_ble_eq_true rfl) ?_
        first
          | (exfalso; omega)
          | (refine pI_of ⟨rfl, ?_, ?_⟩
             · first | (simp only [tl1, *, if_true, if_false]; done) | (simp_all [tl1]; done)
             · intro j hj; first | rfl | exact f_13 j hj | exact f_29 j hj | exact f_45 j hj)
    · refine V_aload_n (Y := mX5_counted) (pc := 22) dX5_counted_22 rfl ?_
      refine V_dup (Y := mX5_counted) (pc := 23) dX5_counted_23 rfl ?_
      apply V_get (Y := mX5_counted) (pc := 24) dX5_counted_24 fl_X5_72
      · assumption
      · rfl
      refine V_iconst (Y := mX5_counted) (pc := 27) dX5_counted_27 ?_
      refine V_iadd (Y := mX5_counted) (pc := 28) dX5_counted_28 ?_
      apply V_putiW (Y := mX5_counted) (pc := 29) dX5_counted_29 fl_X5_72
      · assumption
      · exact Nat.le_of_ble_eq_true rfl
      intro w_29 h_29 f_29
      simp only [List.set_cons_zero, List.set_cons_succ] at h_29
      refine V_iload_n (Y := mX5_counted) (pc := 32) dX5_counted_32 rfl ?_
      refine V_bipush (Y := mX5_counted) (pc := 33) dX5_counted_33 ⟨by decide, by decide⟩ ?_
      refine V_icmp_ne (tgt := 48) (Y := mX5_counted) (pc := 35) dX5_counted_35 (by decide) ⟨by omega, by omega⟩ ⟨by omega, by omega⟩ (fun h_35 => ?_) (fun h_35 => ?_)
      · refine V_iload_n (Y := mX5_counted) (pc := 48) dX5_counted_48 rfl ?_
        refine V_iret (Y := mX5_counted) (pc := 49) dX5_counted_49 rfl (Nat.le_of_ble_eq_true rfl) (Nat.le_of_ble_eq_true rfl) ?_
        first
          | (exfalso; omega)
          | (refine pI_of ⟨rfl, ?_, ?_⟩
             · first | (simp only [tl1, *, if_true, if_false]; done) | (simp_all [tl1]; done)
             · intro j hj; first | rfl | exact f_13 j hj | exact f_29 j hj | exact f_45 j hj)
      · refine V_aload_n (Y := mX5_counted) (pc := 38) dX5_counted_38 rfl ?_
        refine V_dup (Y := mX5_counted) (pc := 39) dX5_counted_39 rfl ?_
        apply V_get (Y := mX5_counted) (pc := 40) dX5_counted_40 fl_X5_75
        · assumption
        · rfl
        refine V_iconst (Y := mX5_counted) (pc := 43) dX5_counted_43 ?_
        refine V_iadd (Y := mX5_counted) (pc := 44) dX5_counted_44 ?_
        apply V_putiW (Y := mX5_counted) (pc := 45) dX5_counted_45 fl_X5_75
        · assumption
        · exact Nat.le_of_ble_eq_true rfl
        intro w_45 h_45 f_45
        simp only [List.set_cons_zero, List.set_cons_succ] at h_45
        refine V_iload_n (Y := mX5_counted) (pc := 48) dX5_counted_48 rfl ?_
        refine V_iret (Y := mX5_counted) (pc := 49) dX5_counted_49 rfl (Nat.le_of_ble_eq_true rfl) (Nat.le_of_ble_eq_true rfl) ?_
        first
          | (exfalso; omega)
          | (refine pI_of ⟨rfl, ?_, ?_⟩
             · first | (simp only [tl1, *, if_true, if_false]; done) | (simp_all [tl1]; done)
             · intro j hj; first | rfl | exact f_13 j hj | exact f_29 j hj | exact f_45 j hj)
  · refine V_aload_n (Y := mX5_counted) (pc := 6) dX5_counted_6 rfl ?_
    refine V_dup (Y := mX5_counted) (pc := 7) dX5_counted_7 rfl ?_
    apply V_get (Y := mX5_counted) (pc := 8) dX5_counted_8 fl_X5_68
    · assumption
    · rfl
    refine V_iconst (Y := mX5_counted) (pc := 11) dX5_counted_11 ?_
    refine V_iadd (Y := mX5_counted) (pc := 12) dX5_counted_12 ?_
    apply V_putiW (Y := mX5_counted) (pc := 13) dX5_counted_13 fl_X5_68
    · assumption
    · exact Nat.le_of_ble_eq_true rfl
    intro w_13 h_13 f_13
    simp only [List.set_cons_zero, List.set_cons_succ] at h_13
    refine V_iload_n (Y := mX5_counted) (pc := 16) dX5_counted_16 rfl ?_
    refine V_bipush (Y := mX5_counted) (pc := 17) dX5_counted_17 ⟨by decide, by decide⟩ ?_
    refine V_icmp_ne (tgt := 32) (Y := mX5_counted) (pc := 19) dX5_counted_19 (by decide) ⟨by omega, by omega⟩ ⟨by omega, by omega⟩ (fun h_19 => ?_) (fun h_19 => ?_)
    · refine V_iload_n (Y := mX5_counted) (pc := 32) dX5_counted_32 rfl ?_
      refine V_bipush (Y := mX5_counted) (pc := 33) dX5_counted_33 ⟨by decide, by decide⟩ ?_
      refine V_icmp_ne (tgt := 48) (Y := mX5_counted) (pc := 35) dX5_counted_35 (by decide) ⟨by omega, by omega⟩ ⟨by omega, by omega⟩ (fun h_35 => ?_) (fun h_35 => ?_)
      · refine V_iload_n (Y := mX5_counted) (pc := 48) dX5_counted_48 rfl ?_
        refine V_iret (Y := mX5_counted) (pc := 49) dX5_counted_49 rfl (Nat.le_of_ble_eq_true rfl) (Nat.le_of_ble_eq_true rfl) ?_
        first
          | (exfalso; omega)
          | (refine pI_of ⟨rfl, ?_, ?_⟩
             · first | (simp only [tl1, *, if_true, if_false]; done) | (simp_all [tl1]; done)
             · intro j hj; first | rfl | exact f_13 j hj | exact f_29 j hj | exact f_45 j hj)
      · refine V_aload_n (Y := mX5_counted) (pc := 38) dX5_counted_38 rfl ?_
        refine V_dup (Y := mX5_counted) (pc := 39) dX5_counted_39 rfl ?_
        apply V_get (Y := mX5_counted) (pc := 40) dX5_counted_40 fl_X5_75
        · assumption
        · rfl
        refine V_iconst (Y := mX5_counted) (pc := 43) dX5_counted_43 ?_
        refine V_iadd (Y := mX5_counted) (pc := 44) dX5_counted_44 ?_
        apply V_putiW (Y := mX5_counted) (pc := 45) dX5_counted_45 fl_X5_75
        · assumption
        · exact Nat.le_of_ble_eq_true rfl
        intro w_45 h_45 f_45
        simp only [List.set_cons_zero, List.set_cons_succ] at h_45
        refine V_iload_n (Y := mX5_counted) (pc := 48) dX5_counted_48 rfl ?_
        refine V_iret (Y := mX5_counted) (pc := 49) dX5_counted_49 rfl (Nat.le_of_ble_eq_true rfl) (Nat.le_of_ble_eq_true rfl) ?_
        first
          | (exfalso; omega)
          | (refine pI_of ⟨rfl, ?_, ?_⟩
             · first | (simp only [tl1, *, if_true, if_false]; done) | (simp_all [tl1]; done)
             · intro j hj; first | rfl | exact f_13 j hj | exact f_29 j hj | exact f_45 j hj)
    · refine V_aload_n (Y := mX5_counted) (pc := 22) dX5_counted_22 rfl ?_
      refine V_dup (Y := mX5_counted) (pc := 23) dX5_counted_23 rfl ?_
      apply V_get (Y := mX5_counted) (pc := 24) dX5_counted_24 fl_X5_72
      · assumption
      · rfl
      refine V_iconst (Y := mX5_counted) (pc := 27) dX5_counted_27 ?_
      refine V_iadd (Y := mX5_counted) (pc := 28) dX5_counted_28 ?_
      apply V_putiW (Y := mX5_counted) (pc := 29) dX5_counted_29 fl_X5_72
      · assumption
      · exact Nat.le_of_ble_eq_true rfl
      intro w_29 h_29 f_29
      simp only [List.set_cons_zero, List.set_cons_succ] at h_29
      refine V_iload_n (Y := mX5_counted) (pc := 32) dX5_counted_32 rfl ?_
      refine V_bipush (Y := mX5_counted) (pc := 33) dX5_counted_33 ⟨by decide, by decide⟩ ?_
      refine V_icmp_ne (tgt := 48) (Y := mX5_counted) (pc := 35) dX5_counted_35 (by decide) ⟨by omega, by omega⟩ ⟨by omega, by omega⟩ (fun h_35 => ?_) (fun h_35 => ?_)
      · refine V_iload_n (Y := mX5_counted) (pc := 48) dX5_counted_48 rfl ?_
        refine V_iret (Y := mX5_counted) (pc := 49) dX5_counted_49 rfl (Nat.le_of_ble_eq_true rfl) (Nat.le_of_ble_eq_true rfl) ?_
        first
          | (exfalso; omega)
          | (refine pI_of ⟨rfl, ?_, ?_⟩
             · first | (simp only [tl1, *, if_true, if_false]; done) | (simp_all [tl1]; done)
             · intro j hj; first | rfl | exact f_13 j hj | exact f_29 j hj | exact f_45 j hj)
      · refine V_aload_n (Y := mX5_counted) (pc := 38) dX5_counted_38 rfl ?_
        refine V_dup (Y := mX5_counted) (pc := 39) dX5_counted_39 rfl ?_
        apply V_get (Y := mX5_counted) (pc := 40) dX5_counted_40 fl_X5_75
        · assumption
        · rfl
        refine V_iconst (Y := mX5_counted) (pc := 43) dX5_counted_43 ?_
        refine V_iadd (Y := mX5_counted) (pc := 44) dX5_counted_44 ?_
        apply V_putiW (Y := mX5_counted) (pc := 45) dX5_counted_45 fl_X5_75
        · assumption
        · exact Nat.le_of_ble_eq_true rfl
        intro w_45 h_45 f_45
        simp only [List.set_cons_zero, List.set_cons_succ] at h_45
        refine V_iload_n (Y := mX5_counted) (pc := 48) dX5_counted_48 rfl ?_
        refine V_iret (Y := mX5_counted) (pc := 49) dX5_counted_49 rfl (Nat.le_of_ble_eq_true rfl) (Nat.le_of_ble_eq_true rfl) ?_
        first
          | (exfalso; omega)
          | (refine pI_of ⟨rfl, ?_, ?_⟩
             · first | (simp only [tl1, *, if_true, if_false]; done) | (simp_all [tl1]; done)
             · intro j hj; first | rfl | exact f_13 j hj | exact f_29 j hj | exact f_45 j hj)
/-- the end of a call that told a wall -/
theorem XInv.told {w w2 w3 : vWd} {S' S0 S1 : vSt} {k0 k1 : Int} {tx : List Int} {rb rn rf z : Int} (h : XRest w S0 S1 tx) (hW : WallAt w2 1 S') (hK : WkInv w2 S'.1 S'.2.2.1 S'.2.2.2.2.2) (hf : ∀ j, (20 ≤ j ∧ j < 84) ∨ 95 ≤ j → w2 j = w j) (ho : w3 0 = some (xO k0 k1 (tl1 (-2) z rb) (tl1 (-3) z rn) (tl1 (-4) z rf))) (hf3 : ∀ j, j ≠ 0 → w3 j = w2 j) : XInv w3 S' S0 S1 k0 k1 tx (tl1 (-2) z rb) (tl1 (-3) z rn) (tl1 (-4) z rf) ∧ frX w w3 :=
  ⟨⟨ho, hW.keep (fun j a b => hf3 j (by omega)), hK.keep (fun j a b => hf3 j (by omega)), h.keep (fun j a b => (hf3 j (by omega)).trans (hf j (by omega))) (fun j a b => (hf3 j (by omega)).trans (hf j (by omega)))⟩, fun j hj => (hf3 j (by omega)).trans (hf j (by omega))⟩

section CLS
variable {nn : Nat} {w : vWd} {n now : Int} {ca po fo : Nat} {rs : Nat → List Int} {S0 S1 : vSt} {k0 k1 rb rn rf : Int} {tx : List Int}
set_option maxRecDepth 100000 in
theorem cx_wall {k : Int} (h : XInv w (n, now, ca, po, fo, rs) S0 S1 k0 k1 tx rb rn rf) (hk : inR k) (hn : 2 ≤ n ∧ n ≤ 7) : Ctr mX5_wall (rm 3) [.ref 0, vI k] nn w (pI (fun z w' => z = (fWall (n, now, ca, po, fo, rs) k).1 ∧ XInv w' (fWall (n, now, ca, po, fo, rs) k).2 S0 S1 k0 k1 tx (tl1 (-2) z rb) (tl1 (-3) z rn) (tl1 (-4) z rf) ∧ frX w w') nn) := by
  refine Ctr_of (lv := [some (.ref 0), some (vI k)]) (by decide +kernel) rfl rfl ?_
  obtain ⟨hx, hW, ⟨lr, dn, sn, tt, tb, st, F, hK, hK2⟩, hr⟩ := h
  have oW := hW.obj
  have oK := hK.obj
  have hrg : inR (fWall (n, now, ca, po, fo, rs) k).1 := by unfold fWall; split <;> exact ⟨by dsimp only; omega, by dsimp only; omega⟩
  refine V_aload_n (Y := mX5_wall) (pc := 0) dX5_wall_0 rfl ?_
  apply V_get (Y := mX5_wall) (pc := 1) dX5_wall_1 fl_X5_51
  · assumption
  · rfl
  apply V_vV (Y := mX5_wall) (pc := 4) dX5_wall_4 ok_X3_forget ov_X3_forget ln_X5_78 (c_forget hK)
  · assumption
  · rfl
  · rfl
  · rfl
  · rfl
  · rfl
  rintro w_4 ⟨g1, f1⟩
  have x4 := (f1 0 (by omega)).trans hx
  have W4 := hW.frK f1 (by omega)
  have oW4 := W4.obj
  refine V_aload_n (Y := mX5_wall) (pc := 7) dX5_wall_7 rfl ?_
  refine V_aload_n (Y := mX5_wall) (pc := 8) dX5_wall_8 rfl ?_
  apply V_get (Y := mX5_wall) (pc := 9) dX5_wall_9 fl_X5_10
  · assumption
  · rfl
  refine V_iload_n (Y := mX5_wall) (pc := 12) dX5_wall_12 rfl ?_
  apply V_vI (Y := mX5_wall) (pc := 13) dX5_wall_13 ok_X4_tellDrawers ov_X4_tellDrawers ln_X5_81 (c_tellDrawers (k := k) W4 hk)
  · assumption
  · rfl
  · rfl
  · rfl
  · rfl
  · rfl
  rintro z_13 w_13 ⟨hz, g2, f2⟩
  have x13 := (f2 0 (by omega)).trans x4
  have r13 : inR z_13 := by rw [hz]; exact hrg
  have K13 : WkInv w_13 (fWall (n, now, ca, po, fo, rs) k).2.1 (fWall (n, now, ca, po, fo, rs) k).2.2.2.1 (fWall (n, now, ca, po, fo, rs) k).2.2.2.2.2.2 := ⟨0, dn, sn, tt, tb, st, F, g1.keep (fun j a b => f2 j (by omega)), Or.inl rfl, hK2.2⟩
  apply V_vI (Y := mX5_wall) (pc := 16) dX5_wall_16 ok_X5_counted ov_X5_counted ln_X5_85 (c_told (z := z_13) x13 r13)
  · assumption
  · rfl
  · rfl
  · rfl
  · rfl
  · rfl
  rintro z_16 w_16 ⟨hz2, g3, f3⟩
  subst hz2
  refine V_iret (Y := mX5_wall) (pc := 19) dX5_wall_19 rfl (Nat.le_of_ble_eq_true rfl) (Nat.le_of_ble_eq_true rfl) ?_
  exact pI_of ⟨hz, XInv.told hr g2 K13 (fun j hj => (f2 j (by omega)).trans (f1 j (by omega))) g3 f3⟩
set_option maxRecDepth 100000 in
theorem cx_cord {a b k v : Int} (h : XInv w (n, now, ca, po, fo, rs) S0 S1 k0 k1 tx rb rn rf) (ha : inR a) (hb : inR b) (hk : inR k) (hv : inR v) (hn : 2 ≤ n ∧ n ≤ 7) (hl : (rs 2).length = (rs 1).length ∧ (rs 3).length = (rs 1).length ∧ (rs 4).length = (rs 1).length) : Ctr mX5_cord (rm 3) [.ref 0, vI a, vI b, vI k, vI v] nn w (pI (fun z w' => z = (fCord (n, now, ca, po, fo, rs) a b k v).1 ∧ XInv w' (fCord (n, now, ca, po, fo, rs) a b k v).2 S0 S1 k0 k1 tx (tl1 (-2) z rb) (tl1 (-3) z rn) (tl1 (-4) z rf) ∧ frX w w') nn) := by
  refine Ctr_of (lv := [some (.ref 0), some (vI a), some (vI b), some (vI k), some (vI v)]) (by decide +kernel) rfl rfl ?_
  obtain ⟨hx, hW, ⟨lr, dn, sn, tt, tb, st, F, hK, hK2⟩, hr⟩ := h
  have oW := hW.obj
  have oK := hK.obj
  have h10 := hW.r1.len
  have hrg : inR (fCord (n, now, ca, po, fo, rs) a b k v).1 := by unfold fCord; split <;> (try split) <;> exact ⟨by dsimp only; omega, by dsimp only; omega⟩
  refine V_aload_n (Y := mX5_cord) (pc := 0) dX5_cord_0 rfl ?_
  apply V_get (Y := mX5_cord) (pc := 1) dX5_cord_1 fl_X5_51
  · assumption
  · rfl
  apply V_vV (Y := mX5_cord) (pc := 4) dX5_cord_4 ok_X3_forget ov_X3_forget ln_X5_78 (c_forget hK)
  · assumption
  · rfl
  · rfl
  · rfl
  · rfl
  · rfl
  rintro w_4 ⟨g1, f1⟩
  have x4 := (f1 0 (by omega)).trans hx
  have W4 := hW.frK f1 (by omega)
  have oW4 := W4.obj
  refine V_aload_n (Y := mX5_cord) (pc := 7) dX5_cord_7 rfl ?_
  refine V_aload_n (Y := mX5_cord) (pc := 8) dX5_cord_8 rfl ?_
  apply V_get (Y := mX5_cord) (pc := 9) dX5_cord_9 fl_X5_10
  · assumption
  · rfl
  refine V_iload_n (Y := mX5_cord) (pc := 12) dX5_cord_12 rfl ?_
  refine V_iload_n (Y := mX5_cord) (pc := 13) dX5_cord_13 rfl ?_
  refine V_iload_n (Y := mX5_cord) (pc := 14) dX5_cord_14 rfl ?_
  refine V_iload (Y := mX5_cord) (pc := 15) dX5_cord_15 rfl ?_
  apply V_vI (Y := mX5_cord) (pc := 17) dX5_cord_17 ok_X4_tellCord ov_X4_tellCord ln_X5_88 (c_tellCord (a := a) (b := b) (k := k) (v := v) W4 ⟨by omega, by omega⟩ hl ha hb hk hv)
  · assumption
  · rfl
  · rfl
  · rfl
  · rfl
  · rfl
  rintro z_13 w_13 ⟨hz, g2, f2⟩
  have x13 := (f2 0 (by omega)).trans x4
  have r13 : inR z_13 := by rw [hz]; exact hrg
  have K13 : WkInv w_13 (fCord (n, now, ca, po, fo, rs) a b k v).2.1 (fCord (n, now, ca, po, fo, rs) a b k v).2.2.2.1 (fCord (n, now, ca, po, fo, rs) a b k v).2.2.2.2.2.2 := ⟨0, dn, sn, tt, tb, st, F, g1.keep (fun j a b => f2 j (by omega)), Or.inl rfl, hK2.2⟩
  apply V_vI (Y := mX5_cord) (pc := 20) dX5_cord_20 ok_X5_counted ov_X5_counted ln_X5_85 (c_told (z := z_13) x13 r13)
  · assumption
  · rfl
  · rfl
  · rfl
  · rfl
  · rfl
  rintro z_16 w_16 ⟨hz2, g3, f3⟩
  subst hz2
  refine V_iret (Y := mX5_cord) (pc := 23) dX5_cord_23 rfl (Nat.le_of_ble_eq_true rfl) (Nat.le_of_ble_eq_true rfl) ?_
  exact pI_of ⟨hz, XInv.told hr g2 K13 (fun j hj => (f2 j (by omega)).trans (f1 j (by omega))) g3 f3⟩
set_option maxRecDepth 100000 in
theorem cx_caught {d y : Int} (h : XInv w (n, now, ca, po, fo, rs) S0 S1 k0 k1 tx rb rn rf) (hd : inR d) (hy : y = 0 ∨ y = 1) (hn : 2 ≤ n ∧ n ≤ 7) (hc : ca < 128) : Ctr mX5_caught (rm 3) [.ref 0, vI d, vI y] nn w (pI (fun z w' => z = (fCatch (n, now, ca, po, fo, rs) d y).1 ∧ XInv w' (fCatch (n, now, ca, po, fo, rs) d y).2 S0 S1 k0 k1 tx (tl1 (-2) z rb) (tl1 (-3) z rn) (tl1 (-4) z rf) ∧ frX w w') nn) := by
  refine Ctr_of (lv := [some (.ref 0), some (vI d), some (vI y)]) (by decide +kernel) rfl rfl ?_
  obtain ⟨hx, hW, ⟨lr, dn, sn, tt, tb, st, F, hK, hK2⟩, hr⟩ := h
  have oW := hW.obj
  have oK := hK.obj
  have hrg : inR (fCatch (n, now, ca, po, fo, rs) d y).1 := by unfold fCatch; split <;> (try split) <;> exact ⟨by dsimp only; omega, by dsimp only; omega⟩
  refine V_aload_n (Y := mX5_caught) (pc := 0) dX5_caught_0 rfl ?_
  apply V_get (Y := mX5_caught) (pc := 1) dX5_caught_1 fl_X5_51
  · assumption
  · rfl
  apply V_vV (Y := mX5_caught) (pc := 4) dX5_caught_4 ok_X3_forget ov_X3_forget ln_X5_78 (c_forget hK)
  · assumption
  · rfl
  · rfl
  · rfl
  · rfl
  · rfl
  rintro w_4 ⟨g1, f1⟩
  have x4 := (f1 0 (by omega)).trans hx
  have W4 := hW.frK f1 (by omega)
  have oW4 := W4.obj
  refine V_aload_n (Y := mX5_caught) (pc := 7) dX5_caught_7 rfl ?_
  refine V_aload_n (Y := mX5_caught) (pc := 8) dX5_caught_8 rfl ?_
  apply V_get (Y := mX5_caught) (pc := 9) dX5_caught_9 fl_X5_10
  · assumption
  · rfl
  refine V_iload_n (Y := mX5_caught) (pc := 12) dX5_caught_12 rfl ?_
  refine V_iload_n (Y := mX5_caught) (pc := 13) dX5_caught_13 rfl ?_
  apply V_vI (Y := mX5_caught) (pc := 14) dX5_caught_14 ok_X4_tellCatch ov_X4_tellCatch ln_X5_92 (c_tellCatch (d := d) (z := y) W4 ⟨by omega, by omega⟩ hc hd hy)
  · assumption
  · rfl
  · rfl
  · rfl
  · rfl
  · rfl
  rintro z_13 w_13 ⟨hz, g2, f2⟩
  have x13 := (f2 0 (by omega)).trans x4
  have r13 : inR z_13 := by rw [hz]; exact hrg
  have K13 : WkInv w_13 (fCatch (n, now, ca, po, fo, rs) d y).2.1 (fCatch (n, now, ca, po, fo, rs) d y).2.2.2.1 (fCatch (n, now, ca, po, fo, rs) d y).2.2.2.2.2.2 := ⟨0, dn, sn, tt, tb, st, F, g1.keep (fun j a b => f2 j (by omega)), Or.inl rfl, hK2.2⟩
  apply V_vI (Y := mX5_caught) (pc := 17) dX5_caught_17 ok_X5_counted ov_X5_counted ln_X5_85 (c_told (z := z_13) x13 r13)
  · assumption
  · rfl
  · rfl
  · rfl
  · rfl
  · rfl
  rintro z_16 w_16 ⟨hz2, g3, f3⟩
  subst hz2
  refine V_iret (Y := mX5_caught) (pc := 20) dX5_caught_20 rfl (Nat.le_of_ble_eq_true rfl) (Nat.le_of_ble_eq_true rfl) ?_
  exact pI_of ⟨hz, XInv.told hr g2 K13 (fun j hj => (f2 j (by omega)).trans (f1 j (by omega))) g3 f3⟩
set_option maxRecDepth 100000 in
theorem cx_good {d g : Int} (h : XInv w (n, now, ca, po, fo, rs) S0 S1 k0 k1 tx rb rn rf) (hd : inR d) (hg : inR g) (hn : 2 ≤ n ∧ n ≤ 7) (hgd : gdOK n rs) : Ctr mX5_good (rm 3) [.ref 0, vI d, vI g] nn w (pI (fun z w' => z = (fGood (n, now, ca, po, fo, rs) d g).1 ∧ XInv w' (fGood (n, now, ca, po, fo, rs) d g).2 S0 S1 k0 k1 tx (tl1 (-2) z rb) (tl1 (-3) z rn) (tl1 (-4) z rf) ∧ frX w w') nn) := by
  refine Ctr_of (lv := [some (.ref 0), some (vI d), some (vI g)]) (by decide +kernel) rfl rfl ?_
  obtain ⟨hx, hW, ⟨lr, dn, sn, tt, tb, st, F, hK, hK2⟩, hr⟩ := h
  have oW := hW.obj
  have oK := hK.obj
  have hrg : inR (fGood (n, now, ca, po, fo, rs) d g).1 := by
    unfold fGood
    split
    · exact ⟨by dsimp only; omega, by dsimp only; omega⟩
    · rename_i hq
      have hq2 : isD n d ∧ 0 ≤ g ∧ g < 7 := Decidable.byContradiction hq
      have := hgd.2 d hq2.1.1 hq2.1.2
      exact ⟨by dsimp only; omega, by dsimp only; omega⟩
  refine V_aload_n (Y := mX5_good) (pc := 0) dX5_good_0 rfl ?_
  refine V_aload_n (Y := mX5_good) (pc := 1) dX5_good_1 rfl ?_
  apply V_get (Y := mX5_good) (pc := 2) dX5_good_2 fl_X5_10
  · assumption
  · rfl
  refine V_iload_n (Y := mX5_good) (pc := 5) dX5_good_5 rfl ?_
  refine V_iload_n (Y := mX5_good) (pc := 6) dX5_good_6 rfl ?_
  apply V_vI (Y := mX5_good) (pc := 7) dX5_good_7 ok_X4_tellGoods ov_X4_tellGoods ln_X5_96 (c_tellGoods (d := d) (g := g) hW ⟨by omega, by omega⟩ hd hg)
  · assumption
  · rfl
  · rfl
  · rfl
  · rfl
  · rfl
  rintro z_13 w_13 ⟨hz, g2, f2⟩
  have x13 := (f2 0 (by omega)).trans hx
  have r13 : inR z_13 := by rw [hz]; exact hrg
  have K13 : WkInv w_13 (fGood (n, now, ca, po, fo, rs) d g).2.1 (fGood (n, now, ca, po, fo, rs) d g).2.2.2.1 (fGood (n, now, ca, po, fo, rs) d g).2.2.2.2.2.2 := by
    have k0 : WkInv w_13 n ca rs := ⟨lr, dn, sn, tt, tb, st, F, hK.keep (fun j a b => f2 j (by omega)), hK2⟩
    unfold fGood
    split
    · exact k0
    · exact k0.rs rfl rfl rfl rfl
  apply V_vI (Y := mX5_good) (pc := 10) dX5_good_10 ok_X5_counted ov_X5_counted ln_X5_85 (c_told (z := z_13) x13 r13)
  · assumption
  · rfl
  · rfl
  · rfl
  · rfl
  · rfl
  rintro z_16 w_16 ⟨hz2, g3, f3⟩
  subst hz2
  refine V_iret (Y := mX5_good) (pc := 13) dX5_good_13 rfl (Nat.le_of_ble_eq_true rfl) (Nat.le_of_ble_eq_true rfl) ?_
  exact pI_of ⟨hz, XInv.told hr g2 K13 (fun j hj => f2 j (by omega)) g3 f3⟩
set_option maxRecDepth 100000 in
theorem cx_order {g : Int} (h : XInv w (n, now, ca, po, fo, rs) S0 S1 k0 k1 tx rb rn rf) (hg : inR g) : Ctr mX5_order (rm 3) [.ref 0, vI g] nn w (pI (fun z w' => z = (fOrder (n, now, ca, po, fo, rs) g).1 ∧ XInv w' (fOrder (n, now, ca, po, fo, rs) g).2 S0 S1 k0 k1 tx (tl1 (-2) z rb) (tl1 (-3) z rn) (tl1 (-4) z rf) ∧ frX w w') nn) := by
  refine Ctr_of (lv := [some (.ref 0), some (vI g)]) (by decide +kernel) rfl rfl ?_
  obtain ⟨hx, hW, ⟨lr, dn, sn, tt, tb, st, F, hK, hK2⟩, hr⟩ := h
  have oW := hW.obj
  have oK := hK.obj
  have h5 := hW.r5.len
  have hrg : inR (fOrder (n, now, ca, po, fo, rs) g).1 := by unfold fOrder; split <;> (try split) <;> exact ⟨by dsimp only; omega, by dsimp only; omega⟩
  refine V_aload_n (Y := mX5_order) (pc := 0) dX5_order_0 rfl ?_
  refine V_aload_n (Y := mX5_order) (pc := 1) dX5_order_1 rfl ?_
  apply V_get (Y := mX5_order) (pc := 2) dX5_order_2 fl_X5_10
  · assumption
  · rfl
  refine V_iload_n (Y := mX5_order) (pc := 5) dX5_order_5 rfl ?_
  apply V_vI (Y := mX5_order) (pc := 6) dX5_order_6 ok_X4_tellOrder ov_X4_tellOrder ln_X5_106 (c_tellOrder (g := g) hW hg)
  · assumption
  · rfl
  · rfl
  · rfl
  · rfl
  · rfl
  rintro z_13 w_13 ⟨hz, g2, f2⟩
  have x13 := (f2 0 (by omega)).trans hx
  have r13 : inR z_13 := by rw [hz]; exact hrg
  have K13 : WkInv w_13 (fOrder (n, now, ca, po, fo, rs) g).2.1 (fOrder (n, now, ca, po, fo, rs) g).2.2.2.1 (fOrder (n, now, ca, po, fo, rs) g).2.2.2.2.2.2 := by
    have k0 : WkInv w_13 n ca rs := ⟨lr, dn, sn, tt, tb, st, F, hK.keep (fun j a b => f2 j (by omega)), hK2⟩
    unfold fOrder
    split
    · exact k0
    · split
      · exact k0
      · exact k0.rs rfl rfl rfl rfl
  apply V_vI (Y := mX5_order) (pc := 9) dX5_order_9 ok_X5_counted ov_X5_counted ln_X5_85 (c_told (z := z_13) x13 r13)
  · assumption
  · rfl
  · rfl
  · rfl
  · rfl
  · rfl
  rintro z_16 w_16 ⟨hz2, g3, f3⟩
  subst hz2
  refine V_iret (Y := mX5_order) (pc := 12) dX5_order_12 rfl (Nat.le_of_ble_eq_true rfl) (Nat.le_of_ble_eq_true rfl) ?_
  exact pI_of ⟨hz, XInv.told hr g2 K13 (fun j hj => f2 j (by omega)) g3 f3⟩
end CLS
