/-! ===== DrawerWall$Day ===== -/
def DayAt (w : vWd) (q : Nat) (sv pl : Int) : Prop := w q = some (.inr (0, [vI sv, vI pl]))
def exB (bits a b : Nat) : Nat := if bits.testBit a = bits.testBit b then bits else bits ^^^ (p2 a ||| p2 b)
theorem exB_lt {bits a b : Nat} (h : bits < 128) (ha : a < 7) (hb : b < 7) : exB bits a b < 128 := by
  unfold exB
  split
  · exact h
  · apply Nat.xor_lt_two_pow (n := 7) h
    apply Nat.or_lt_two_pow
    · exact Nat.pow_lt_pow_right (by decide) ha
    · exact Nat.pow_lt_pow_right (by decide) hb
theorem tb_eq {a d b e : Nat} : ((if a.testBit d then 1 else 0 : Nat) : Int) = ((if b.testBit e then 1 else 0 : Nat) : Int) ↔ a.testBit d = b.testBit e := by
  cases a.testBit d <;> cases b.testBit e <;> simp
set_option maxRecDepth 100000 in
theorem c_exchanged {n : Nat} {w : vWd} {bits : Nat} {a b : Int} (hb : bits < 128) (ha : 0 ≤ a ∧ a < 7) (hb2 : 0 ≤ b ∧ b < 7) : Ctr mX0_exchanged (rm 0) [vI (bits : Int), vI a, vI b] n w (pR (vI (exB bits a.toNat b.toNat : Nat)) n w) := by
  refine Ctr_of (lv := [some (vI (bits : Int)), some (vI a), some (vI b), none]) (by decide +kernel) rfl rfl ?_
  have h1 := testBit_1 bits a.toNat
  have h2 := testBit_1 bits b.toNat
  refine V_iload_n (Y := mX0_exchanged) (pc := 0) dX0_exchanged_0 rfl ?_
  refine V_iload_n (Y := mX0_exchanged) (pc := 1) dX0_exchanged_1 rfl ?_
  refine V_ishr (Y := mX0_exchanged) (pc := 2) dX0_exchanged_2 (iI_shr (by omega) (by omega) (by omega)) ?_
  refine V_iconst (Y := mX0_exchanged) (pc := 3) dX0_exchanged_3 ?_
  refine V_iand (Y := mX0_exchanged) (pc := 4) dX0_exchanged_4 (iI_and _ 1) ?_
  rw [h1]
  refine V_iload_n (Y := mX0_exchanged) (pc := 5) dX0_exchanged_5 rfl ?_
  refine V_iload_n (Y := mX0_exchanged) (pc := 6) dX0_exchanged_6 rfl ?_
  refine V_ishr (Y := mX0_exchanged) (pc := 7) dX0_exchanged_7 (iI_shr (by omega) (by omega) (by omega)) ?_
  refine V_iconst (Y := mX0_exchanged) (pc := 8) dX0_exchanged_8 ?_
  refine V_iand (Y := mX0_exchanged) (pc := 9) dX0_exchanged_9 (iI_and _ 1) ?_
  rw [h2]
  refine V_icmp_ne (tgt := 17) (Y := mX0_exchanged) (pc := 10) dX0_exchanged_10 (by decide) ⟨by split <;> omega, by split <;> omega⟩ ⟨by split <;> omega, by split <;> omega⟩ (fun h_10 => ?_) (fun h_10 => ?_)
  · rw [tb_eq] at h_10
    refine V_iconst (Y := mX0_exchanged) (pc := 17) dX0_exchanged_17 ?_
    refine V_istore_n (Y := mX0_exchanged) (pc := 18) dX0_exchanged_18 rfl ?_
    refine V_iload_n (Y := mX0_exchanged) (pc := 19) dX0_exchanged_19 rfl ?_
    refine V_if_eq (tgt := 27) (Y := mX0_exchanged) (pc := 20) dX0_exchanged_20 (by decide) ⟨by omega, by omega⟩ (fun h_20 => ?_) (fun h_20 => ?_)
    · refine V_iload_n (Y := mX0_exchanged) (pc := 27) dX0_exchanged_27 rfl ?_
      refine V_iconst (Y := mX0_exchanged) (pc := 28) dX0_exchanged_28 ?_
      refine V_iload_n (Y := mX0_exchanged) (pc := 29) dX0_exchanged_29 rfl ?_
      refine V_ishl (Y := mX0_exchanged) (pc := 30) dX0_exchanged_30 (iI_shl2 (by omega) (by omega)) ?_
      refine V_iconst (Y := mX0_exchanged) (pc := 31) dX0_exchanged_31 ?_
      refine V_iload_n (Y := mX0_exchanged) (pc := 32) dX0_exchanged_32 rfl ?_
      refine V_ishl (Y := mX0_exchanged) (pc := 33) dX0_exchanged_33 (iI_shl2 (by omega) (by omega)) ?_
      refine V_ior (Y := mX0_exchanged) (pc := 34) dX0_exchanged_34 (iI_or _ _) ?_
      refine V_ixor (Y := mX0_exchanged) (pc := 35) dX0_exchanged_35 (iI_xor _ _) ?_
      refine V_iret (Y := mX0_exchanged) (pc := 36) dX0_exchanged_36 rfl (Nat.le_of_ble_eq_true rfl) (Nat.le_of_ble_eq_true rfl) ?_
      first
        | (exfalso; omega)
        | exact pR_I (by rw [exB, if_pos h_10])
        | exact pR_I (by rw [exB, if_neg h_10])
    · refine V_iload_n (Y := mX0_exchanged) (pc := 23) dX0_exchanged_23 rfl ?_
      refine V_goto (tgt := 36) (Y := mX0_exchanged) (pc := 24) dX0_exchanged_24 (by decide) ?_
      refine V_iret (Y := mX0_exchanged) (pc := 36) dX0_exchanged_36 rfl (Nat.le_of_ble_eq_true rfl) (Nat.le_of_ble_eq_true rfl) ?_
      first
        | (exfalso; omega)
        | exact pR_I (by rw [exB, if_pos h_10])
        | exact pR_I (by rw [exB, if_neg h_10])
  · rw [tb_eq] at h_10
    refine V_iconst (Y := mX0_exchanged) (pc := 13) dX0_exchanged_13 ?_
    refine V_goto (tgt := 18) (Y := mX0_exchanged) (pc := 14) dX0_exchanged_14 (by decide) ?_
    refine V_istore_n (Y := mX0_exchanged) (pc := 18) dX0_exchanged_18 rfl ?_
    refine V_iload_n (Y := mX0_exchanged) (pc := 19) dX0_exchanged_19 rfl ?_
    refine V_if_eq (tgt := 27) (Y := mX0_exchanged) (pc := 20) dX0_exchanged_20 (by decide) ⟨by omega, by omega⟩ (fun h_20 => ?_) (fun h_20 => ?_)
    · refine V_iload_n (Y := mX0_exchanged) (pc := 27) dX0_exchanged_27 rfl ?_
      refine V_iconst (Y := mX0_exchanged) (pc := 28) dX0_exchanged_28 ?_
      refine V_iload_n (Y := mX0_exchanged) (pc := 29) dX0_exchanged_29 rfl ?_
      refine V_ishl (Y := mX0_exchanged) (pc := 30) dX0_exchanged_30 (iI_shl2 (by omega) (by omega)) ?_
      refine V_iconst (Y := mX0_exchanged) (pc := 31) dX0_exchanged_31 ?_
      refine V_iload_n (Y := mX0_exchanged) (pc := 32) dX0_exchanged_32 rfl ?_
      refine V_ishl (Y := mX0_exchanged) (pc := 33) dX0_exchanged_33 (iI_shl2 (by omega) (by omega)) ?_
      refine V_ior (Y := mX0_exchanged) (pc := 34) dX0_exchanged_34 (iI_or _ _) ?_
      refine V_ixor (Y := mX0_exchanged) (pc := 35) dX0_exchanged_35 (iI_xor _ _) ?_
      refine V_iret (Y := mX0_exchanged) (pc := 36) dX0_exchanged_36 rfl (Nat.le_of_ble_eq_true rfl) (Nat.le_of_ble_eq_true rfl) ?_
      first
        | (exfalso; omega)
        | exact pR_I (by rw [exB, if_pos h_10])
        | exact pR_I (by rw [exB, if_neg h_10])
    · refine V_iload_n (Y := mX0_exchanged) (pc := 23) dX0_exchanged_23 rfl ?_
      refine V_goto (tgt := 36) (Y := mX0_exchanged) (pc := 24) dX0_exchanged_24 (by decide) ?_
      refine V_iret (Y := mX0_exchanged) (pc := 36) dX0_exchanged_36 rfl (Nat.le_of_ble_eq_true rfl) (Nat.le_of_ble_eq_true rfl) ?_
      first
        | (exfalso; omega)
        | exact pR_I (by rw [exB, if_pos h_10])
        | exact pR_I (by rw [exB, if_neg h_10])
set_option maxRecDepth 100000 in
theorem c_isBetterThan {n : Nat} {w : vWd} {q q2 : Nat} {sv pl sv2 pl2 : Int} (h : DayAt w q sv pl) (h2 : DayAt w q2 sv2 pl2) (r1 : inR sv) (r2 : inR pl) (r3 : inR sv2) (r4 : inR pl2) : Ctr mX0_isBetterThan (rm 0) [.ref q, .ref q2] n w (pR (vI (bI (sv2 < sv ∨ (sv = sv2 ∧ pl < pl2)))) n w) := by
  refine Ctr_of (lv := [some (.ref q), some (.ref q2)]) (by decide +kernel) rfl rfl ?_
  have h := h
  have h2 := h2
  unfold DayAt at h h2
  refine V_aload_n (Y := mX0_isBetterThan) (pc := 0) dX0_isBetterThan_0 rfl ?_
  apply V_get (Y := mX0_isBetterThan) (pc := 1) dX0_isBetterThan_1 fl_X0_9
  · exact h
  · rfl
  refine V_aload_n (Y := mX0_isBetterThan) (pc := 4) dX0_isBetterThan_4 rfl ?_
  apply V_get (Y := mX0_isBetterThan) (pc := 5) dX0_isBetterThan_5 fl_X0_9
  · exact h2
  · rfl
  refine V_icmp_eq (tgt := 28) (Y := mX0_isBetterThan) (pc := 8) dX0_isBetterThan_8 (by decide) ⟨by omega, by omega⟩ ⟨by omega, by omega⟩ (fun h_8 => ?_) (fun h_8 => ?_)
  · refine V_aload_n (Y := mX0_isBetterThan) (pc := 28) dX0_isBetterThan_28 rfl ?_
    apply V_get (Y := mX0_isBetterThan) (pc := 29) dX0_isBetterThan_29 fl_X0_15
    · exact h
    · rfl
    refine V_aload_n (Y := mX0_isBetterThan) (pc := 32) dX0_isBetterThan_32 rfl ?_
    apply V_get (Y := mX0_isBetterThan) (pc := 33) dX0_isBetterThan_33 fl_X0_15
    · exact h2
    · rfl
    refine V_icmp_ge (tgt := 43) (Y := mX0_isBetterThan) (pc := 36) dX0_isBetterThan_36 (by decide) ⟨by omega, by omega⟩ ⟨by omega, by omega⟩ (fun h_36 => ?_) (fun h_36 => ?_)
    · refine V_iconst (Y := mX0_isBetterThan) (pc := 43) dX0_isBetterThan_43 ?_
      refine V_zret (ty := .boolean) (Y := mX0_isBetterThan) (pc := 44) dX0_isBetterThan_44 rfl rfl (Nat.le_of_ble_eq_true rfl) (Nat.le_of_ble_eq_true rfl) ?_
      first | exact pR_I (bI_t (by omega)).symm | exact pR_I (bI_f (by omega)).symm
    · refine V_iconst (Y := mX0_isBetterThan) (pc := 39) dX0_isBetterThan_39 ?_
      refine V_goto (tgt := 44) (Y := mX0_isBetterThan) (pc := 40) dX0_isBetterThan_40 (by decide) ?_
      refine V_zret (ty := .boolean) (Y := mX0_isBetterThan) (pc := 44) dX0_isBetterThan_44 rfl rfl (Nat.le_of_ble_eq_true rfl) (Nat.le_of_ble_eq_true rfl) ?_
      first | exact pR_I (bI_t (by omega)).symm | exact pR_I (bI_f (by omega)).symm
  · refine V_aload_n (Y := mX0_isBetterThan) (pc := 11) dX0_isBetterThan_11 rfl ?_
    apply V_get (Y := mX0_isBetterThan) (pc := 12) dX0_isBetterThan_12 fl_X0_9
    · exact h
    · rfl
    refine V_aload_n (Y := mX0_isBetterThan) (pc := 15) dX0_isBetterThan_15 rfl ?_
    apply V_get (Y := mX0_isBetterThan) (pc := 16) dX0_isBetterThan_16 fl_X0_9
    · exact h2
    · rfl
    refine V_icmp_le (tgt := 26) (Y := mX0_isBetterThan) (pc := 19) dX0_isBetterThan_19 (by decide) ⟨by omega, by omega⟩ ⟨by omega, by omega⟩ (fun h_19 => ?_) (fun h_19 => ?_)
    · refine V_iconst (Y := mX0_isBetterThan) (pc := 26) dX0_isBetterThan_26 ?_
      refine V_zret (ty := .boolean) (Y := mX0_isBetterThan) (pc := 27) dX0_isBetterThan_27 rfl rfl (Nat.le_of_ble_eq_true rfl) (Nat.le_of_ble_eq_true rfl) ?_
      first | exact pR_I (bI_t (by omega)).symm | exact pR_I (bI_f (by omega)).symm
    · refine V_iconst (Y := mX0_isBetterThan) (pc := 22) dX0_isBetterThan_22 ?_
      refine V_goto (tgt := 27) (Y := mX0_isBetterThan) (pc := 23) dX0_isBetterThan_23 (by decide) ?_
      refine V_zret (ty := .boolean) (Y := mX0_isBetterThan) (pc := 27) dX0_isBetterThan_27 rfl rfl (Nat.le_of_ble_eq_true rfl) (Nat.le_of_ble_eq_true rfl) ?_
      first | exact pR_I (bI_t (by omega)).symm | exact pR_I (bI_f (by omega)).symm
set_option maxRecDepth 100000 in
theorem c_dayCopy {n : Nat} {w : vWd} {q q2 : Nat} {sv pl sv2 pl2 : Int} (h : DayAt w q sv pl) (h2 : DayAt w q2 sv2 pl2) (hq : q ≠ q2) : Ctr mX0_copyFrom (rm 0) [.ref q, .ref q2] n w (pV (fun w' => DayAt w' q sv2 pl2 ∧ ∀ j, j ≠ q → w' j = w j) n) := by
  refine Ctr_of (lv := [some (.ref q), some (.ref q2)]) (by decide +kernel) rfl rfl ?_
  unfold DayAt at h h2
  refine V_aload_n (Y := mX0_copyFrom) (pc := 0) dX0_copyFrom_0 rfl ?_
  refine V_aload_n (Y := mX0_copyFrom) (pc := 1) dX0_copyFrom_1 rfl ?_
  apply V_get (Y := mX0_copyFrom) (pc := 2) dX0_copyFrom_2 fl_X0_9
  · exact h2
  · rfl
  apply V_putiW (Y := mX0_copyFrom) (pc := 5) dX0_copyFrom_5 fl_X0_9
  · exact h
  · exact Nat.le_of_ble_eq_true rfl
  intro w_5 h_5 f_5
  simp only [List.set_cons_zero, List.set_cons_succ] at h_5
  have g2 := (f_5 q2 (Ne.symm hq)).trans h2
  refine V_aload_n (Y := mX0_copyFrom) (pc := 8) dX0_copyFrom_8 rfl ?_
  refine V_aload_n (Y := mX0_copyFrom) (pc := 9) dX0_copyFrom_9 rfl ?_
  apply V_get (Y := mX0_copyFrom) (pc := 10) dX0_copyFrom_10 fl_X0_15
  · exact g2
  · rfl
  apply V_putiW (Y := mX0_copyFrom) (pc := 13) dX0_copyFrom_13 fl_X0_15
  · exact h_5
  · exact Nat.le_of_ble_eq_true rfl
  intro w_13 h_13 f_13
  simp only [List.set_cons_zero, List.set_cons_succ] at h_13
  refine V_vret (Y := mX0_copyFrom) (pc := 16) dX0_copyFrom_16 rfl (Nat.le_of_ble_eq_true rfl) (Nat.le_of_ble_eq_true rfl) ?_
  exact pV_of ⟨h_13, fun j hj => (f_13 j hj).trans (f_5 j hj)⟩
def FSh (F : bF) : Prop := F.2.1.length = 2187 ∧ F.2.2.1.length = 2187
abbrev bgF (N : Int) (F : bF) : bF := (List.replicate N.toNat (-1), F.2.1, F.2.2.1, [])
theorem rAt_rep (k : Nat) (v i : Int) : rAt (List.replicate k v) i = if 0 ≤ i ∧ i < k then v else 0 := by
  by_cases h : 0 ≤ i ∧ i < k
  · rw [if_pos h, rAt_in h.1, List.getD_eq_getElem?_getD, List.getElem?_replicate, if_pos (by omega)]; rfl
  · rw [if_neg h]
    unfold rAt
    split
    · rw [List.getD_eq_getElem?_getD, List.getElem?_replicate, if_neg (by omega)]; rfl
    · rfl
theorem FOK_bg {N : Int} {F : bF} (h : FSh F) (hN : 0 ≤ N ∧ N ≤ 2187) : FOK N (bgF N F) := by
  refine ⟨by show ((List.replicate N.toNat (-1 : Int)).length : Int) = N; rw [List.length_replicate]; omega, hN.2, h.1, h.2, fun i => ?_, List.nodup_nil, fun s hs => (by simp at hs), fun s h1 h2 h3 => ?_⟩
  · show -2 ≤ rAt (List.replicate N.toNat (-1)) i ∧ rAt (List.replicate N.toNat (-1)) i ≤ ([] : List Int).length
    rw [rAt_rep]; split <;> simp
  · have h3 : 0 ≤ rAt (List.replicate N.toNat (-1)) s := h3
    rw [rAt_rep, if_pos (by omega)] at h3
    omega
theorem FOK.sh {N : Int} {F : bF} (h : FOK N F) : FSh F := ⟨h.2.2.1, h.2.2.2.1⟩
theorem fNear_ok {N n : Int} {sp : Int → Int → Int} (hn : 0 ≤ n) (hsp : spOK n N sp) (hh : Nat) : ∀ (m k : Nat) (best bd : Int) (F : bF), FOK N F → (best = -1 ∨ best ∈ F.2.2.2) → FOK N (fNear sp n.toNat hh m k best bd F).2 ∧ ((fNear sp n.toNat hh m k best bd F).1 = -1 ∨ (fNear sp n.toNat hh m k best bd F).1 ∈ (fNear sp n.toNat hh m k best bd F).2.2.2.2)
  | 0, _, _, _, _, h, hb => ⟨h, hb⟩
  | m + 1, k, best, bd, F, h, hb => by
    rw [fNear]
    split
    · rename_i hk
      split
      · exact ⟨h, hb⟩
      · have hm := rAt_mem (l := F.2.2.2) (i := (k : Int)) (by omega) (by omega)
        have hr := h.2.2.2.2.2.2.1 _ hm
        have hx := fGrowTo_ok h (sp := sp) (fun d h1 h2 => hsp _ d ⟨hr.1, hr.2.1⟩ ⟨h1, h2⟩) hm n.toNat (by omega)
        have hp : (nrPick hh (rAt F.2.2.2 (k : Int)) best bd).1 = -1 ∨ (nrPick hh (rAt F.2.2.2 (k : Int)) best bd).1 ∈ F.2.2.2 := by
          unfold nrPick
          split
          · exact Or.inr hm
          · exact hb
        split
        · rename_i hz
          exact fNear_ok hn hsp hh m (k + 1) _ _ _ hx.1 (Or.inl hz)
        · exact fNear_ok hn hsp hh m (k + 1) _ _ _ h hp
    · exact ⟨h, hb⟩
def nrTo (sp : Int → Int → Int) (n : Int) (hh : Nat) (s : Int) (F : bF) : Int × bF := fNear sp n.toNat hh 2188 0 (-1) 7 (fMeet (bgF (p3 n.toNat) F) s (-1) (-1))
theorem nrTo_ok {n : Int} {sp : Int → Int → Int} (hn : 0 ≤ n ∧ n ≤ 7) (hsp : spOK n (p3 n.toNat) sp) (hh : Nat) {s : Int} (hs : isS n s) {F : bF} (h : FSh F) : FOK (p3 n.toNat) (nrTo sp n hh s F).2 ∧ ((nrTo sp n hh s F).1 = -1 ∨ (isS n (nrTo sp n hh s F).1 ∧ 0 ≤ rAt (nrTo sp n hh s F).2.1 (nrTo sp n hh s F).1 ∧ rAt (nrTo sp n hh s F).2.1 (nrTo sp n hh s F).1 ≤ 2187)) := by
  have hp := p3_le n.toNat (by omega)
  have hp0 := p3_pos n.toNat
  have h1 := fNear_ok hn.1 hsp hh 2188 0 (-1) 7 (fMeet (bgF (p3 n.toNat) F) s (-1) (-1)) ((FOK_bg h ⟨by omega, hp⟩).meet hs (Or.inl rfl)) (Or.inl rfl)
  refine ⟨h1.1, ?_⟩
  rcases h1.2 with q | q
  · exact Or.inl q
  · have := h1.1.2.2.2.2.2.2.1 _ q
    have h3 := h1.1.2.2.2.2.1 (nrTo sp n hh s F).1
    have h4 := h1.1.len
    exact Or.inr ⟨⟨this.1, this.2.1⟩, this.2.2, by show rAt (nrTo sp n hh s F).2.1 _ ≤ 2187; have h5 := h3.2; have h6 : ((nrTo sp n hh s F).2.2.2.2.length : Int) ≤ p3 n.toNat := h4; show rAt (nrTo sp n hh s F).2.1 (nrTo sp n hh s F).1 ≤ 2187; have h7 : rAt (nrTo sp n hh s F).2.1 (nrTo sp n hh s F).1 ≤ ((nrTo sp n hh s F).2.2.2.2.length : Int) := h5; omega⟩
def holdB (n : Int) (rs : Nat → List Int) (a b o : Int) : Nat := exB (dwB (rs 0) (p2 (rAt (rs 5) o).toNat) n.toNat) a.toNat b.toNat
def fRun (sp : Int → Int → Int) (n : Int) (rs : Nat → List Int) (a b : Int) : Nat → Int → Int → Int → Int → bF → Int × Int × bF
  | 0, _, _, sv, pl, F => (sv, pl, F)
  | m + 1, o, s, sv, pl, F => if (nrTo sp n (holdB n rs a b o) s F).1 = -1 then (sv, pl, (nrTo sp n (holdB n rs a b o) s F).2) else fRun sp n rs a b m (o + 1) (nrTo sp n (holdB n rs a b o) s F).1 (sv + 1) (pl + rAt (nrTo sp n (holdB n rs a b o) s F).2.1 (nrTo sp n (holdB n rs a b o) s F).1) (nrTo sp n (holdB n rs a b o) s F).2
def orOK (rs : Nat → List Int) : Prop := ∀ o : Int, 0 ≤ o → o < (rs 5).length → 0 ≤ rAt (rs 5) o ∧ rAt (rs 5) o ≤ 6
def frD (q e : Nat) (w w' : vWd) : Prop := ∀ j, j ≠ e → (j < q ∨ q + 11 ≤ j) → w' j = w j
set_option maxRecDepth 100000 in
theorem lp_run {nn : Nat} {w : vWd} {p q e : Nat} {lr tt tb n now a b : Int} {st : List Int} {ca po fo : Nat} {rs : Nat → List Int} (hn : 0 ≤ n ∧ n ≤ 7) (ht : tbOK n st) (hgd : gdOK n rs) (hor : orOK rs) (ha : 0 ≤ a ∧ a < 7) (hb : 0 ≤ b ∧ b < 7) (htt : inR tt) (htb : inR tb) (hpq : p + 19 ≤ q) (heq : e < p ∨ q + 11 ≤ e) {G : Int × Int × bF} : ∀ (m : Nat) (i : Int) (w' : vWd) (s sv pl : Int) (F : bF), 0 ≤ i → i ≤ (rs 5).length → ((rs 5).length - i).toNat = m → isS n s → (0 ≤ sv ∧ sv ≤ i) → (0 ≤ pl ∧ pl ≤ 2187 * i) → frD q e w w' → FSh F → WallAt w' p (n, now, ca, po, fo, rs) → WalkAt w' q lr n (p3 n.toNat) (-1) tt tb st F → DayAt w' e sv pl → fRun (stpF st (-1) tt tb) n rs a b m i s sv pl F = G →
    V mX0_run (rm 5) (pV (fun w' => DayAt w' e G.1 G.2.1 ∧ WalkAt w' q lr n (p3 n.toNat) (-1) tt tb st G.2.2 ∧ FSh G.2.2 ∧ (0 ≤ G.1 ∧ G.1 ≤ 10) ∧ (0 ≤ G.2.1 ∧ G.2.1 ≤ 21870) ∧ frD q e w w') nn) 16 [some (.ref e), some (.ref p), some (.ref q), some (vI a), some (vI b), some (vI s), some (vI i), none] [] nn w' 0 0 := by
  intro m
  induction m with
  | zero =>
    intro i w' s sv pl F hi hi2 hm hs hsv hpl hfr hF hw h hd hG
    have ho := h.obj
    have how := hw.obj
    have hl := hw.r5.len
    have hd0 := hd
    unfold DayAt at hd
    refine V_iload (Y := mX0_run) (pc := 16) dX0_run_16 rfl ?_
    refine V_aload_n (Y := mX0_run) (pc := 18) dX0_run_18 rfl ?_
    apply V_get (Y := mX0_run) (pc := 19) dX0_run_19 fl_X0_18
    · assumption
    · rfl
    apply V_vR (Y := mX0_run) (pc := 22) dX0_run_22 ok_X2_size ov_X2_size ln_X0_24 (c_Row_size hw.r5)
    · exact hw.r5.obj
    · rfl
    · rfl
    · rfl
    · rfl
    · rfl
    refine V_icmp_ge (tgt := 106) (Y := mX0_run) (pc := 25) dX0_run_25 (by decide) ⟨by omega, by omega⟩ ⟨by omega, by omega⟩ (fun h_25 => ?_) (fun h_25 => absurd h_25 (by omega))
    refine V_vret (Y := mX0_run) (pc := 106) dX0_run_106 rfl (Nat.le_of_ble_eq_true rfl) (Nat.le_of_ble_eq_true rfl) ?_
    rw [fRun] at hG
    subst hG
    refine pV_of ⟨hd0, h, hF, ?_, ?_, hfr⟩ <;> dsimp only <;> omega
  | succ m ih =>
    intro i w' s sv pl F hi hi2 hm hs hsv hpl hfr hF hw h hd hG
    have ho := h.obj
    have how := hw.obj
    have hl := hw.r5.len
    have hp := p3_le n.toNat (by omega)
    have hp0 := p3_pos n.toNat
    have hd0 := hd
    unfold DayAt at hd
    have hoi := hor i hi (by omega)
    have hg2 := p2_le (rAt (rs 5) i).toNat (by omega)
    have hdw := dwB_lt (rs 0) (p2 (rAt (rs 5) i).toNat) n.toNat
    have hpw : (2 : Nat) ^ n.toNat ≤ 2 ^ 7 := Nat.pow_le_pow_right (by decide) (by omega)
    have hH : holdB n rs a b i < 128 := exB_lt (by omega) (by omega) (by omega)
    have hdef : exB (dwB (rs 0) (p2 (rAt (rs 5) i).toNat) n.toNat) a.toNat b.toNat = holdB n rs a b i := rfl
    have hN := nrTo_ok hn (stpF_ok (tf := -1) (tt := tt) (tb := tb) hn.1 ht (Or.inl ⟨rfl, htt, htb⟩)) (holdB n rs a b i) hs hF
    rw [fRun] at hG
    refine V_iload (Y := mX0_run) (pc := 16) dX0_run_16 rfl ?_
    refine V_aload_n (Y := mX0_run) (pc := 18) dX0_run_18 rfl ?_
    apply V_get (Y := mX0_run) (pc := 19) dX0_run_19 fl_X0_18
    · assumption
    · rfl
    apply V_vR (Y := mX0_run) (pc := 22) dX0_run_22 ok_X2_size ov_X2_size ln_X0_24 (c_Row_size hw.r5)
    · exact hw.r5.obj
    · rfl
    · rfl
    · rfl
    · rfl
    · rfl
    refine V_icmp_ge (tgt := 106) (Y := mX0_run) (pc := 25) dX0_run_25 (by decide) ⟨by omega, by omega⟩ ⟨by omega, by omega⟩ (fun h_25 => absurd h_25 (by omega)) (fun h_25 => ?_)
    refine V_aload_n (Y := mX0_run) (pc := 28) dX0_run_28 rfl ?_
    refine V_iconst (Y := mX0_run) (pc := 29) dX0_run_29 ?_
    refine V_aload_n (Y := mX0_run) (pc := 30) dX0_run_30 rfl ?_
    apply V_get (Y := mX0_run) (pc := 31) dX0_run_31 fl_X0_18
    · assumption
    · rfl
    refine V_iload (Y := mX0_run) (pc := 34) dX0_run_34 rfl ?_
    apply V_vR (Y := mX0_run) (pc := 36) dX0_run_36 ok_X2_at ov_X2_at ln_X0_30 (c_Row_at (i := i) hw.r5 ⟨by omega, by omega⟩)
    · exact hw.r5.obj
    · rfl
    · rfl
    · rfl
    · rfl
    · rfl
    refine V_ishl (Y := mX0_run) (pc := 39) dX0_run_39 (iI_shl2 (by omega) (by omega)) ?_
    apply V_vR (Y := mX0_run) (pc := 40) dX0_run_40 ok_X4_drawersHolding ov_X4_drawersHolding ln_X0_34 (c_drawersWith (g := p2 (rAt (rs 5) i).toNat) hw hn (by omega) hgd)
    · assumption
    · rfl
    · rfl
    · rfl
    · rfl
    · rfl
    refine V_iload_n (Y := mX0_run) (pc := 43) dX0_run_43 rfl ?_
    refine V_iload (Y := mX0_run) (pc := 44) dX0_run_44 rfl ?_
    apply V_sR (Y := mX0_run) (pc := 46) dX0_run_46 ok_X0_exchanged os_X0_exchanged ln_X0_37 (c_exchanged (bits := dwB (rs 0) (p2 (rAt (rs 5) i).toNat) n.toNat) (by omega) ha hb)
    · rfl
    · rfl
    · rfl
    rw [hdef]
    refine V_istore (Y := mX0_run) (pc := 49) dX0_run_49 rfl ?_
    refine V_aload_n (Y := mX0_run) (pc := 51) dX0_run_51 rfl ?_
    apply V_vV (Y := mX0_run) (pc := 52) dX0_run_52 ok_X3_begin ov_X3_begin ln_X0_41 (c_begin h ⟨by omega, hp⟩)
    · assumption
    · rfl
    · rfl
    · rfl
    · rfl
    · rfl
    rintro w_52 ⟨g1, k1⟩
    have o52 := g1.obj
    refine V_aload_n (Y := mX0_run) (pc := 55) dX0_run_55 rfl ?_
    refine V_iload (Y := mX0_run) (pc := 56) dX0_run_56 rfl ?_
    refine V_iload (Y := mX0_run) (pc := 58) dX0_run_58 rfl ?_
    apply V_vI (Y := mX0_run) (pc := 60) dX0_run_60 ok_X3_nearestOpen ov_X3_nearestOpen ln_X0_46 (c_nearestOpen (s := s) (hh := holdB n rs a b i) g1 hn ht (Or.inl ⟨rfl, htt, htb⟩) hH (FOK_bg hF ⟨by omega, hp⟩) hs)
    · assumption
    · rfl
    · rfl
    · rfl
    · rfl
    · rfl
    rintro z_60 w_60 ⟨hz, g2, k2⟩
    have hzd : z_60 = (nrTo (stpF st (-1) tt tb) n (holdB n rs a b i) s F).1 := hz
    have g3 : WalkAt w_60 q lr n (p3 n.toNat) (-1) tt tb st (nrTo (stpF st (-1) tt tb) n (holdB n rs a b i) s F).2 := g2
    have f60 : ∀ j, (j < q ∨ q + 11 ≤ j) → w_60 j = w' j := fun j hj => (k2 j hj).trans (k1 j hj)
    have d60 : w_60 e = some (.inr (0, [vI sv, vI pl])) := (f60 e (by omega)).trans hd
    rw [← hzd] at hN hG
    generalize hR : (nrTo (stpF st (-1) tt tb) n (holdB n rs a b i) s F).2 = F2 at *
    have o60 := g3.obj
    refine V_istore (Y := mX0_run) (pc := 63) dX0_run_63 rfl ?_
    refine V_iload (Y := mX0_run) (pc := 65) dX0_run_65 rfl ?_
    refine V_iconst (Y := mX0_run) (pc := 67) dX0_run_67 ?_
    refine V_icmp_ne (tgt := 72) (Y := mX0_run) (pc := 68) dX0_run_68 (by decide) ⟨by rcases hN.2 with q1 | q1 <;> omega, by rcases hN.2 with q1 | q1 <;> omega⟩ ⟨by omega, by omega⟩ (fun h_68 => ?_) (fun h_68 => ?_)
    · refine V_aload_n (Y := mX0_run) (pc := 72) dX0_run_72 rfl ?_
      refine V_dup (Y := mX0_run) (pc := 73) dX0_run_73 rfl ?_
      apply V_get (Y := mX0_run) (pc := 74) dX0_run_74 fl_X0_9
      · exact d60
      · rfl
      refine V_iconst (Y := mX0_run) (pc := 77) dX0_run_77 ?_
      refine V_iadd (Y := mX0_run) (pc := 78) dX0_run_78 ?_
      apply V_putiW (Y := mX0_run) (pc := 79) dX0_run_79 fl_X0_9
      · exact d60
      · exact Nat.le_of_ble_eq_true rfl
      intro w_79 h_79 f_79
      simp only [List.set_cons_zero, List.set_cons_succ] at h_79
      have o79 := (f_79 q (by omega)).trans o60
      have r79 := g3.r1.keep (w' := w_79) (f_79 _ (by omega)) (f_79 _ (by omega))
      refine V_aload_n (Y := mX0_run) (pc := 82) dX0_run_82 rfl ?_
      refine V_dup (Y := mX0_run) (pc := 83) dX0_run_83 rfl ?_
      apply V_get (Y := mX0_run) (pc := 84) dX0_run_84 fl_X0_15
      · exact h_79
      · rfl
      refine V_aload_n (Y := mX0_run) (pc := 87) dX0_run_87 rfl ?_
      apply V_get (Y := mX0_run) (pc := 88) dX0_run_88 fl_X0_50
      · exact o79
      · rfl
      refine V_iload (Y := mX0_run) (pc := 91) dX0_run_91 rfl ?_
      apply V_vR (Y := mX0_run) (pc := 93) dX0_run_93 ok_X2_at ov_X2_at ln_X0_30 (c_Row_at (i := z_60) r79 ⟨by omega, by omega⟩)
      · exact r79.obj
      · rfl
      · rfl
      · rfl
      · rfl
      · rfl
      refine V_iadd (Y := mX0_run) (pc := 96) dX0_run_96 ?_
      apply V_putiW (Y := mX0_run) (pc := 97) dX0_run_97 fl_X0_15
      · exact h_79
      · exact Nat.le_of_ble_eq_true rfl
      intro w_97 h_97 f_97
      simp only [List.set_cons_zero, List.set_cons_succ] at h_97
      have r97 := (hN.2.resolve_left h_68)
      refine V_iinc (Y := mX0_run) (pc := 100) dX0_run_100 rfl rfl ?_
      refine V_goto (tgt := 16) (Y := mX0_run) (pc := 103) dX0_run_103 (by decide) ?_
      refine V_drop 7 ?_
      rw [if_neg h_68] at hG
      have f97 : ∀ j, j ≠ e → w_97 j = w_60 j := fun j hj => (f_97 j hj).trans (f_79 j hj)
      exact ih (i + 1) w_97 z_60 (sv + 1) (pl + rAt F2.1 z_60) F2 (by omega) (by omega) (by omega) r97.1 ⟨by omega, by omega⟩ ⟨by omega, by omega⟩ (fun j h1 h2 => (f97 j h1).trans ((f60 j h2).trans (hfr j h1 h2))) hN.1.sh (hw.keep (fun j h1 h2 => (f97 j (by omega)).trans (f60 j (by omega)))) (g3.keep (fun j h1 h2 => f97 j (by omega))) h_97 hG
    · refine V_vret (Y := mX0_run) (pc := 71) dX0_run_71 rfl (Nat.le_of_ble_eq_true rfl) (Nat.le_of_ble_eq_true rfl) ?_
      rw [if_pos h_68] at hG
      subst hG
      refine pV_of ⟨d60, g3, hN.1.sh, ?_, ?_, fun j h1 h2 => (f60 j h2).trans (hfr j h1 h2)⟩ <;> dsimp only <;> omega
set_option maxRecDepth 100000 in
theorem c_run {nn : Nat} {w : vWd} {p q e : Nat} {lr tt tb n now a b sv pl : Int} {st : List Int} {F : bF} {ca po fo : Nat} {rs : Nat → List Int} (h : WalkAt w q lr n (p3 n.toNat) (-1) tt tb st F) (hw : WallAt w p (n, now, ca, po, fo, rs)) (hd : DayAt w e sv pl) (hn : 0 ≤ n ∧ n ≤ 7) (ht : tbOK n st) (hgd : gdOK n rs) (hor : orOK rs) (ha : 0 ≤ a ∧ a < 7) (hb : 0 ≤ b ∧ b < 7) (htt : inR tt) (htb : inR tb) (hpq : p + 19 ≤ q) (heq : e < p ∨ q + 11 ≤ e) (hF : FSh F) : Ctr mX0_run (rm 5) [.ref e, .ref p, .ref q, vI a, vI b] nn w (pV (fun w' => DayAt w' e (fRun (stpF st (-1) tt tb) n rs a b (rs 5).length 0 0 0 0 F).1 (fRun (stpF st (-1) tt tb) n rs a b (rs 5).length 0 0 0 0 F).2.1 ∧ WalkAt w' q lr n (p3 n.toNat) (-1) tt tb st (fRun (stpF st (-1) tt tb) n rs a b (rs 5).length 0 0 0 0 F).2.2 ∧ FSh (fRun (stpF st (-1) tt tb) n rs a b (rs 5).length 0 0 0 0 F).2.2 ∧ (0 ≤ (fRun (stpF st (-1) tt tb) n rs a b (rs 5).length 0 0 0 0 F).1 ∧ (fRun (stpF st (-1) tt tb) n rs a b (rs 5).length 0 0 0 0 F).1 ≤ 10) ∧ (0 ≤ (fRun (stpF st (-1) tt tb) n rs a b (rs 5).length 0 0 0 0 F).2.1 ∧ (fRun (stpF st (-1) tt tb) n rs a b (rs 5).length 0 0 0 0 F).2.1 ≤ 21870) ∧ frD q e w w') nn) := by
  refine Ctr_of (lv := [some (.ref e), some (.ref p), some (.ref q), some (vI a), some (vI b), none, none, none]) (by decide +kernel) rfl rfl ?_
  unfold DayAt at hd
  have hp0 := p3_pos n.toNat
  refine V_aload_n (Y := mX0_run) (pc := 0) dX0_run_0 rfl ?_
  refine V_iconst (Y := mX0_run) (pc := 1) dX0_run_1 ?_
  apply V_putiW (Y := mX0_run) (pc := 2) dX0_run_2 fl_X0_9
  · exact hd
  · exact Nat.le_of_ble_eq_true rfl
  intro w_2 h_2 f_2
  simp only [List.set_cons_zero, List.set_cons_succ] at h_2
  refine V_aload_n (Y := mX0_run) (pc := 5) dX0_run_5 rfl ?_
  refine V_iconst (Y := mX0_run) (pc := 6) dX0_run_6 ?_
  apply V_putiW (Y := mX0_run) (pc := 7) dX0_run_7 fl_X0_15
  · exact h_2
  · exact Nat.le_of_ble_eq_true rfl
  intro w_7 h_7 f_7
  simp only [List.set_cons_zero, List.set_cons_succ] at h_7
  refine V_iconst (Y := mX0_run) (pc := 10) dX0_run_10 ?_
  refine V_istore (Y := mX0_run) (pc := 11) dX0_run_11 rfl ?_
  refine V_iconst (Y := mX0_run) (pc := 13) dX0_run_13 ?_
  refine V_istore (Y := mX0_run) (pc := 14) dX0_run_14 rfl ?_
  have f7 : ∀ j, j ≠ e → w_7 j = w j := fun j hj => (f_7 j hj).trans (f_2 j hj)
  exact lp_run hn ht hgd hor ha hb htt htb hpq heq (rs 5).length 0 w_7 0 0 0 F (by omega) (by omega) (by omega) ⟨by omega, by omega⟩ ⟨by omega, by omega⟩ ⟨by omega, by omega⟩ (fun j h1 _ => f7 j h1) hF (hw.keep (fun j h1 h2 => f7 j (by omega))) (h.keep (fun j h1 h2 => f7 j (by omega))) h_7 rfl
